/** Promise 15: breakGlass. */
public final class BreakGlassTest {
    public static void main(String[] args) {
        holdsForItsTerm();
        isForOnePersonAndRole();
        takesThePlaceOfTheOneBefore();
        goesOverDenials();
        isNothingForTheBarred();
        needsTwoWitnesses();
        needsNotTheWitnessesLater();
        Due.end();
    }

    /** People 1 and 2 serve for role 0; 3 has nothing, 4 is barred, 5 serves for role 1 alone. */
    private static SignOnHouse staffed() {
        SignOnHouse house = new SignOnHouse();
        house.setRole(0, 0, 1);
        house.setRole(1, 1, 1);
        house.setPerson(0, 1, true);
        house.setPerson(0, 2, true);
        house.setPerson(0, 4, true);
        house.setPerson(1, 5, true);
        house.setRisk(4, 3);
        house.pass(2);
        return house;
    }

    private static void holdsForItsTerm() {
        SignOnHouse house = staffed();
        Due.is("15: before", house.allows(0, 0), false);
        Due.is("15: its end", house.breakGlass(0, 0, 1, 2), 62);
        Due.is("15: it holds", house.allows(0, 0), true);
        house.pass(59);
        Due.is("15: at the 59th", house.allows(0, 0), true);
        house.pass(1);
        Due.is("15: at the 60th", house.allows(0, 0), false);
        Due.is("15: a new one", house.breakGlass(0, 0, 2, 1), 122);
        Due.is("15: it holds", house.allows(0, 0), true);
        house.pass(300);
        Due.is("15: long after", house.allows(0, 0), false);
    }

    private static void isForOnePersonAndRole() {
        SignOnHouse house = staffed();
        house.breakGlass(9, 0, 1, 2);
        for (int person = 0; person < 10; person++) {
            for (int role = 0; role < 6; role++) {
                boolean due = person == 9 && role == 0 || (person == 1 || person == 2) && role == 0
                        || person == 5 && role == 1;
                Due.is("15: " + person + " and the role " + role, house.allows(person, role), due);
            }
        }
        house.setRole(7, 5, 1);
        house.setPerson(7, 1, true);
        house.setPerson(7, 8, true);
        Due.is("15: the last role", house.breakGlass(9, 5, 8, 1), 62);
        Due.is("15: both hold", house.allows(9, 0) && house.allows(9, 5), true);
    }

    private static void takesThePlaceOfTheOneBefore() {
        SignOnHouse house = staffed();
        house.breakGlass(0, 0, 1, 2);
        house.pass(50);
        Due.is("15: a new one", house.breakGlass(0, 0, 1, 2), 112);
        house.pass(10);
        Due.is("15: past the end of the one before", house.allows(0, 0), true);
        house.pass(49);
        Due.is("15: at the 59th of the new one", house.allows(0, 0), true);
        house.pass(1);
        Due.is("15: at the 60th of the new one", house.allows(0, 0), false);
    }

    private static void goesOverDenials() {
        SignOnHouse house = staffed();
        house.setPerson(6, 0, true);
        house.setRole(6, 0, 2);
        house.breakGlass(0, 0, 1, 2);
        Due.is("15: a denial does not count", house.allows(0, 0), true);
        house.pass(60);
        Due.is("15: afterwards it does", house.allows(0, 0), false);
    }

    private static void isNothingForTheBarred() {
        SignOnHouse house = staffed();
        Due.is("15: it can be given", house.breakGlass(4, 0, 1, 2), 62);
        Due.is("15: to the barred it is nothing", house.allows(4, 0), false);
        house.setPerson(0, 4, false);
        house.setRisk(4, 2);
        Due.is("15: barred no more", house.allows(4, 0), true);
        house.setRisk(4, 3);
        Due.is("15: barred again", house.allows(4, 0), false);
    }

    private static void needsTwoWitnesses() {
        SignOnHouse house = staffed();
        Due.same("15: one has nothing", Due.nameOfThrown(() -> house.breakGlass(0, 0, 3, 1)), Due.STATE);
        Due.same("15: other has nothing", Due.nameOfThrown(() -> house.breakGlass(0, 0, 1, 3)), Due.STATE);
        house.setGroup(0, 5, true);
        house.setPerson(5, 3, true);
        Due.is("15: granted over groups", house.breakGlass(0, 0, 1, 3), 62);
        house.setPerson(6, 3, true);
        house.setRole(6, 0, 2);
        Due.is("15: denied elsewhere", house.allows(3, 0), false);
        Due.is("15: yet serves", house.breakGlass(0, 0, 3, 1), 62);
        house.setRole(0, 0, 2);
        Due.same("15: denied alone", Due.nameOfThrown(() -> house.breakGlass(0, 0, 3, 1)), Due.STATE);
        house.setRole(0, 0, 1);
        house.setRisk(3, 2);
        Due.is("15: with the risk 2", house.breakGlass(0, 0, 3, 1), 62);
        house.setRisk(3, 3);
        Due.same("15: with the risk 3", Due.nameOfThrown(() -> house.breakGlass(0, 0, 3, 1)), Due.STATE);
        Due.same("15: as other too", Due.nameOfThrown(() -> house.breakGlass(0, 0, 1, 3)), Due.STATE);
        Due.same("15: a break-glass is no grant", Due.nameOfThrown(() -> house.breakGlass(9, 0, 0, 1)), Due.STATE);
        Due.same("15: the person's own grant is none", Due.nameOfThrown(() -> house.breakGlass(1, 0, 2, 9)), Due.STATE);
    }

    private static void needsNotTheWitnessesLater() {
        SignOnHouse house = staffed();
        house.breakGlass(0, 0, 1, 2);
        house.setRisk(1, 3);
        house.setPerson(0, 2, false);
        Due.is("15: it holds all the same", house.allows(0, 0), true);
    }
}
