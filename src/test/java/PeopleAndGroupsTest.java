/** Promises 1 to 7: a new object, setPerson, setGroup, setRole, setRisk, isIn, allows. */
public final class PeopleAndGroupsTest {
    public static void main(String[] args) {
        newObject();
        setPerson();
        setGroup();
        groupsInLongChains();
        groupsByTwoWays();
        setRole();
        setRisk();
        setRiskLower();
        isIn();
        allows();
        allowsOverGroups();
        Due.end();
    }

    private static void newObject() {
        SignOnHouse house = new SignOnHouse();
        Due.is("1: now", house.now(), 0);
        for (int person = 0; person < 10; person++) {
            for (int group = 0; group < 8; group++) {
                Due.is("1: isIn(" + group + ", " + person + ")", house.isIn(group, person), false);
            }
            for (int role = 0; role < 6; role++) {
                Due.is("1: allows(" + person + ", " + role + ")", house.allows(person, role), false);
            }
        }
        Due.is("1: the key 0 is taken", house.isTaken(0), true);
        Due.same("1: no key 1", Due.nameOfThrown(() -> house.isTaken(1)), Due.ARGUMENT);
        Due.same("1: no session 0", Due.nameOfThrown(() -> house.goesOn(0)), Due.INDEX);
        for (int app = 0; app < 4; app++) {
            Due.is("1: stale", house.stale(app), 0);
            Due.is("1: cache of " + app, house.setCache(app, 10), 10);
        }
        for (int group = 0; group < 8; group++) {
            for (int role = 0; role < 6; role++) {
                Due.is("1: setRole", house.setRole(group, role, 0), 0);
            }
        }
        SignOnHouse other = new SignOnHouse();
        other.setPerson(0, 0, true);
        other.pass(5);
        Due.is("1: houses share nothing", house.isIn(0, 0), false);
        Due.is("1: nor minutes", house.now(), 0);
    }

    private static void setPerson() {
        SignOnHouse house = new SignOnHouse();
        Due.is("2: first put in", house.setPerson(0, 0, true), false);
        Due.is("2: put in again", house.setPerson(0, 0, true), true);
        Due.is("2: is in", house.isIn(0, 0), true);
        Due.is("2: taken out", house.setPerson(0, 0, false), true);
        Due.is("2: taken out again", house.setPerson(0, 0, false), false);
        Due.is("2: is out", house.isIn(0, 0), false);
        Due.is("2: the last ones", house.setPerson(7, 9, true), false);
        Due.is("2: the last ones stand", house.isIn(7, 9), true);
        Due.is("2: not the person before", house.isIn(7, 8), false);
        Due.is("2: not the group before", house.isIn(6, 9), false);
        house.setGroup(6, 7, true);
        Due.is("2: over a group is not directly", house.setPerson(6, 9, false), false);
        Due.is("2: so it stays", house.isIn(6, 9), true);
    }

    private static void setGroup() {
        SignOnHouse house = new SignOnHouse();
        house.setPerson(1, 5, true);
        Due.is("3: first put in", house.setGroup(0, 1, true), false);
        Due.is("3: put in again", house.setGroup(0, 1, true), true);
        Due.is("3: people come along", house.isIn(0, 5), true);
        Due.is("3: the other way was not so, false is allowed", house.setGroup(1, 0, false), false);
        Due.is("3: taken out", house.setGroup(0, 1, false), true);
        Due.is("3: taken out again", house.setGroup(0, 1, false), false);
        Due.is("3: people go along", house.isIn(0, 5), false);
        Due.is("3: now the other way goes", house.setGroup(1, 0, true), false);
        house.setGroup(1, 0, false);
        house.setGroup(2, 1, true);
        Due.is("3: over others is not directly", house.setGroup(3, 1, false), false);
        house.setGroup(3, 2, true);
        Due.is("3: over 2 in 3", house.isIn(3, 5), true);
        Due.is("3: still not directly", house.setGroup(3, 1, true), false);
        Due.is("3: now directly too", house.setGroup(3, 1, false), true);
        Due.is("3: and over 2 as before", house.isIn(3, 5), true);
    }

    private static void groupsInLongChains() {
        for (int turn = 0; turn < 2; turn++) {
            SignOnHouse house = new SignOnHouse();
            for (int i = 0; i < 7; i++) {
                house.setGroup(turn == 0 ? i : 7 - i, turn == 0 ? i + 1 : 6 - i, true);
            }
            int outermost = turn == 0 ? 0 : 7;
            int innermost = 7 - outermost;
            house.setPerson(innermost, 0, true);
            Due.is("6: over seven links", house.isIn(outermost, 0), true);
            Due.same("3: a ring of all", Due.nameOfThrown(() -> house.setGroup(innermost, outermost, true)), Due.STATE);
            Due.is("3: nothing was", house.setGroup(innermost, outermost, false), false);
        }
    }

    private static void groupsByTwoWays() {
        SignOnHouse house = new SignOnHouse();
        house.setGroup(0, 1, true);
        house.setGroup(0, 2, true);
        house.setGroup(1, 3, true);
        house.setGroup(2, 3, true);
        house.setPerson(3, 6, true);
        house.setGroup(1, 3, false);
        Due.is("6: by the second way", house.isIn(0, 6), true);
        Due.is("6: not by the first", house.isIn(1, 6), false);
        house.setGroup(2, 3, false);
        Due.is("6: by none", house.isIn(0, 6), false);
    }

    private static void setRole() {
        SignOnHouse house = new SignOnHouse();
        Due.is("4: nothing first", house.setRole(7, 5, 1), 0);
        Due.is("4: granted before", house.setRole(7, 5, 2), 1);
        Due.is("4: denied before", house.setRole(7, 5, 2), 2);
        Due.is("4: denied still", house.setRole(7, 5, 0), 2);
        Due.is("4: nothing again", house.setRole(7, 5, 0), 0);
        house.setPerson(7, 0, true);
        house.setRole(7, 4, 1);
        Due.is("4: another role has nothing", house.setRole(7, 5, 0), 0);
        Due.is("4: another group has nothing", house.setRole(6, 4, 0), 0);
        Due.is("4: granted counts", house.allows(0, 4), true);
        house.setRole(7, 4, 0);
        Due.is("4: nothing counts", house.allows(0, 4), false);
    }

    private static void setRisk() {
        SignOnHouse house = new SignOnHouse();
        Due.is("5: without sessions", house.setRisk(9, 1), 0);
        house.open(9);
        house.open(0);
        house.open(9);
        house.close(0);
        house.open(9);
        Due.is("5: the same risk ends none", house.setRisk(9, 1), 0);
        Due.is("5: and they go on", house.goesOn(2), true);
        Due.is("5: greater ends those that went on", house.setRisk(9, 2), 2);
        Due.is("5: over", house.goesOn(2), false);
        Due.is("5: over too", house.goesOn(3), false);
        Due.is("5: another person's goes on", house.goesOn(1), true);
        Due.is("5: greater again ends none", house.setRisk(9, 3), 0);
        Due.same("5: barred", Due.nameOfThrown(() -> house.open(9)), Due.STATE);
        Due.is("5: lower", house.setRisk(9, 2), 0);
        Due.is("5: those that are over stay over", house.goesOn(2), false);
        Due.is("5: open again", house.open(9), 4);
        Due.is("5: from 0 to 3 at once", house.setRisk(0, 3), 1);
    }

    private static void setRiskLower() {
        SignOnHouse house = new SignOnHouse();
        house.setPerson(0, 1, true);
        house.setRisk(1, 2);
        house.open(1);
        house.open(1);
        for (int i = 0; i < 5; i++) {
            house.pass(20);
            house.decide(0, 0, 0);
            house.decide(0, 1, 0);
        }
        Due.is("5: a lower risk ends none", house.setRisk(1, 1), 0);
        Due.is("5: the term is longer by 60", house.pass(20), 0);
        Due.is("5: at 120 it goes on", house.goesOn(0), true);
        for (int i = 0; i < 3; i++) {
            house.decide(0, 0, 0);
            house.decide(0, 1, 0);
            house.pass(i < 2 ? 29 : 1);
        }
        house.decide(0, 0, 0);
        Due.is("5: at 179 it goes on", house.goesOn(0), true);
        Due.is("5: at 180 both are over", house.pass(1), 2);
        Due.is("5: lower once more", house.setRisk(1, 0), 0);
        Due.is("5: what was over its term stays over", house.goesOn(0), false);
    }

    private static void isIn() {
        SignOnHouse house = new SignOnHouse();
        house.setPerson(3, 4, true);
        house.setGroup(2, 3, true);
        house.setGroup(1, 2, true);
        Due.is("6: directly", house.isIn(3, 4), true);
        Due.is("6: over one", house.isIn(2, 4), true);
        Due.is("6: over two", house.isIn(1, 4), true);
        Due.is("6: not beside", house.isIn(0, 4), false);
        Due.is("6: nobody else", house.isIn(1, 3), false);
        house.setPerson(1, 5, true);
        Due.is("6: not inwards", house.isIn(3, 5), false);
        house.setPerson(1, 4, true);
        house.setGroup(1, 2, false);
        Due.is("6: directly though not over groups", house.isIn(1, 4), true);
    }

    private static void allows() {
        SignOnHouse house = new SignOnHouse();
        house.setRole(0, 0, 1);
        Due.is("7: not of the group", house.allows(0, 0), false);
        house.setPerson(0, 0, true);
        Due.is("7: granted", house.allows(0, 0), true);
        Due.is("7: another role", house.allows(0, 1), false);
        house.setPerson(1, 0, true);
        Due.is("7: another group that has nothing", house.allows(0, 0), true);
        house.setRole(1, 0, 2);
        Due.is("7: denied elsewhere", house.allows(0, 0), false);
        house.setPerson(1, 0, false);
        Due.is("7: out of the group that is denied", house.allows(0, 0), true);
        for (int risk = 1; risk <= 3; risk++) {
            house.setRisk(0, risk);
            Due.is("7: with the risk " + risk, house.allows(0, 0), risk < 3);
        }
        house.setRisk(0, 0);
        Due.is("7: barred no more", house.allows(0, 0), true);
        house.setRole(2, 0, 2);
        Due.is("7: denied to others", house.allows(0, 0), true);
    }

    private static void allowsOverGroups() {
        SignOnHouse house = new SignOnHouse();
        house.setGroup(0, 1, true);
        house.setPerson(1, 2, true);
        house.setPerson(0, 3, true);
        house.setRole(0, 5, 1);
        Due.is("7: granted to the outer one", house.allows(2, 5), true);
        house.setRole(1, 4, 1);
        Due.is("7: granted to the inner one", house.allows(3, 4), false);
        house.setRole(0, 4, 2);
        Due.is("7: denied to the outer one", house.allows(2, 4), false);
        house.setRole(1, 5, 2);
        Due.is("7: denied to the inner one", house.allows(2, 5), false);
        Due.is("7: which is not of the outer one's people", house.allows(3, 5), true);
        house.setGroup(0, 1, false);
        Due.is("7: no way to the grant or the denial", house.allows(2, 4), true);
    }
}
