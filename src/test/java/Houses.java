import java.util.List;
import java.util.function.Supplier;

/** Houses that tests begin with, each made by some 40 calls. */
final class Houses {
    static final List<Supplier<SignOnHouse>> ALL =
            List.of(SignOnHouse::new, Houses::welcoming, Houses::busy, Houses::full);

    private Houses() {
    }

    /** All people are in group 0, which is granted all roles, and have a session with their own number each. */
    static SignOnHouse welcoming() {
        SignOnHouse house = new SignOnHouse();
        for (int role = 0; role < 6; role++) {
            house.setRole(0, role, 1);
        }
        for (int person = 0; person < 10; person++) {
            house.setPerson(0, person, true);
            house.open(person);
        }
        return house;
    }

    /**
     * Something of all kinds: groups 0 around 1 around 2, and 6 around 7; people 0 and 1 are granted role 0;
     * person 3 is barred; sessions 0 to 3 go on by the key 1, session 4 is closed, 5 goes on by the key 2;
     * person 5 has a break-glass for role 0; the apps keep decisions of different ages, some of them stale.
     */
    static SignOnHouse busy() {
        SignOnHouse house = new SignOnHouse();
        setUpGroups(house);
        house.setRisk(2, 1);
        house.setRisk(3, 3);
        house.setRisk(9, 2);
        house.changeKeys(0);
        house.open(0);
        house.open(1);
        house.open(9);
        house.open(2);
        house.open(0);
        house.setCache(1, 60);
        house.setCache(2, 0);
        house.setCache(3, 20);
        house.decide(0, 0, 0);
        house.decide(1, 1, 0);
        house.decide(1, 2, 5);
        house.pass(4);
        house.close(4);
        house.decide(0, 1, 1);
        house.decide(2, 1, 1);
        house.decide(3, 3, 5);
        house.breakGlass(5, 0, 0, 1);
        house.changeKeys(45);
        house.open(0);
        house.pass(5);
        house.decide(1, 5, 2);
        house.setRole(6, 5, 0);
        return house;
    }

    private static void setUpGroups(SignOnHouse house) {
        house.setGroup(0, 1, true);
        house.setGroup(1, 2, true);
        house.setGroup(6, 7, true);
        house.setPerson(2, 0, true);
        house.setPerson(1, 1, true);
        house.setPerson(0, 3, true);
        house.setPerson(7, 9, true);
        house.setPerson(7, 2, true);
        house.setRole(0, 0, 1);
        house.setRole(1, 1, 1);
        house.setRole(2, 1, 2);
        house.setRole(7, 5, 1);
        house.setRole(6, 5, 2);
    }

    /** 30 sessions were opened; 7 is closed, those of person 1 are over by a risk; person 2 is barred. */
    static SignOnHouse full() {
        SignOnHouse house = new SignOnHouse();
        house.setPerson(4, 0, true);
        house.setRole(4, 4, 1);
        house.setRisk(2, 3);
        for (int session = 0; session < 30; session++) {
            if (session == 20) {
                house.pass(9);
                house.changeKeys(45);
            }
            house.open(session % 3 == 2 ? 9 : session % 3);
        }
        house.close(7);
        house.setRisk(1, 1);
        house.decide(3, 0, 4);
        house.pass(2);
        return house;
    }
}
