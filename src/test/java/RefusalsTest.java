import java.util.function.Supplier;

/**
 * What each call takes and what it refuses, promise by promise: all numbers of a range are taken, the ones
 * beside it and far from it are refused in several houses, and what is refused changes nothing.
 */
public final class RefusalsTest {
    /** Among them those that a shift, a product or a cast would wrap round to one that is taken. */
    private static final int[] FAR = {Integer.MIN_VALUE, Integer.MIN_VALUE + 1, -256, -60, -32, 32, 60, 64, 256,
        1 << 16, 1 << 29, 1 << 30, Integer.MAX_VALUE - 1, Integer.MAX_VALUE};

    public static void main(String[] args) {
        setPerson();
        setGroup();
        setGroupToItself();
        setGroupInARing();
        setRole();
        setRisk();
        isIn();
        allows();
        open();
        openOfTheBarred();
        openOfTheThirtyFirst();
        close();
        closeOfWhatIsOver();
        goesOn();
        changeKeys();
        isTaken();
        isTakenWhileKeysChange();
        pass();
        breakGlass();
        breakGlassWithOnePersonTwice();
        breakGlassWithoutService();
        setCache();
        decide();
        decideWithSeveralFaults();
        forget();
        stale();
        Due.end();
    }

    private interface Call {
        void on(SignOnHouse house, int number);
    }

    private static void range(String what, int first, int last, Call call) {
        for (int number = first; number <= last; number++) {
            takes(what + " " + number, call, number);
        }
        for (Supplier<SignOnHouse> made : Houses.ALL) {
            refuses(what + " too small, " + (first - 1), Due.ARGUMENT, made, call, first - 1);
            refuses(what + " too large, " + (last + 1), Due.ARGUMENT, made, call, last + 1);
        }
        for (int number : FAR) {
            if (number < first || number > last) {
                refuses(what + " far off, " + number, Due.ARGUMENT, Houses::busy, call, number);
            }
        }
    }

    /** Sessions 0 to 9 are taken where they were opened; where fewer or more were, the next number is refused. */
    private static void sessions(String what, Call call) {
        for (int number = 0; number < 10; number++) {
            takes(what + " " + number, call, number);
        }
        for (Supplier<SignOnHouse> made : Houses.ALL) {
            refuses(what + " too small, -1", Due.INDEX, made, call, -1);
        }
        refuses(what + " 0 of none", Due.INDEX, SignOnHouse::new, call, 0);
        refuses(what + " 10 of 10", Due.INDEX, Houses::welcoming, call, 10);
        refuses(what + " 6 of 6", Due.INDEX, Houses::busy, call, 6);
        refuses(what + " 29 of 6", Due.INDEX, Houses::busy, call, 29);
        refuses(what + " 30 of 30", Due.INDEX, Houses::full, call, 30);
        for (int number : FAR) {
            refuses(what + " far off, " + number, Due.INDEX, Houses::full, call, number);
        }
    }

    private static void takes(String what, Call call, int number) {
        Due.same(what, Due.nameOfThrown(() -> call.on(Houses.welcoming(), number)), Due.NOTHING);
    }

    private static void refuses(String what, String thrown, Supplier<SignOnHouse> made, Call call, int number) {
        Due.isThrown(what, thrown, made, house -> call.on(house, number));
    }

    /** Another number of 0 to 7 than this one. */
    private static int unlike(int number) {
        return number == 4 ? 5 : 4;
    }

    private static void setPerson() {
        for (boolean is : new boolean[] {true, false}) {
            range("2: group, " + is, 0, 7, (house, number) -> house.setPerson(number, 9, is));
            range("2: person, " + is, 0, 9, (house, number) -> house.setPerson(7, number, is));
        }
    }

    private static void setGroup() {
        for (boolean is : new boolean[] {true, false}) {
            range("3: group, " + is, 0, 7, (house, number) -> house.setGroup(number, unlike(number), is));
            range("3: inner, " + is, 0, 7, (house, number) -> house.setGroup(unlike(number), number, is));
        }
    }

    // "Throws IllegalArgumentException if group or inner is out of range, or both are the same", and that
    // is documented ahead of the exception for a group in itself.
    private static void setGroupToItself() {
        for (int number = -1; number <= 8; number++) {
            int group = number;
            Due.isThrown("3: the same, " + group, Due.ARGUMENT, Houses::busy, h -> h.setGroup(group, group, true));
            Due.isThrown("3: the same, " + group, Due.ARGUMENT, Houses::busy, h -> h.setGroup(group, group, false));
        }
    }

    private static void setGroupInARing() {
        Due.isThrown("3: a ring of 0 and 1", Due.STATE, Houses::busy, h -> h.setGroup(1, 0, true));
        Due.isThrown("3: a ring of 1 and 2", Due.STATE, Houses::busy, h -> h.setGroup(2, 1, true));
        Due.isThrown("3: a ring of 0, 1 and 2", Due.STATE, Houses::busy, h -> h.setGroup(2, 0, true));
        Due.isThrown("3: a ring of 6 and 7", Due.STATE, Houses::busy, h -> h.setGroup(7, 6, true));
        Due.isThrown("3: a ring of all", Due.STATE, RefusalsTest::chainOfAll, h -> h.setGroup(7, 0, true));
        Due.is("3: taking out is no ring", Houses.busy().setGroup(2, 0, false), false);
        Due.is("3: a short cut is no ring", Houses.busy().setGroup(0, 2, true), false);
        Due.is("3: nor is what was there", Houses.busy().setGroup(0, 1, true), true);
        Due.is("3: nor groups that hold nothing of each other", Houses.busy().setGroup(7, 0, true), false);
    }

    private static SignOnHouse chainOfAll() {
        SignOnHouse house = new SignOnHouse();
        for (int group = 0; group < 7; group++) {
            Due.is("3: a chain of all is no ring", house.setGroup(group, group + 1, true), false);
        }
        return house;
    }

    private static void setRole() {
        range("4: group", 0, 7, (house, number) -> house.setRole(number, 5, 1));
        range("4: role", 0, 5, (house, number) -> house.setRole(7, number, 2));
        range("4: what", 0, 2, (house, number) -> house.setRole(7, 5, number));
        range("4: what of one that has it", 0, 2, (house, number) -> house.setRole(0, 0, number));
    }

    private static void setRisk() {
        range("5: person", 0, 9, (house, number) -> house.setRisk(number, 3));
        range("5: risk", 0, 3, (house, number) -> house.setRisk(0, number));
        range("5: risk of the last", 0, 3, (house, number) -> house.setRisk(9, number));
    }

    private static void isIn() {
        range("6: group", 0, 7, (house, number) -> house.isIn(number, 9));
        range("6: person", 0, 9, (house, number) -> house.isIn(7, number));
    }

    private static void allows() {
        range("7: person", 0, 9, (house, number) -> house.allows(number, 5));
        range("7: role", 0, 5, (house, number) -> house.allows(9, number));
    }

    // The full house is among those of the range: there the argument's exception is the one thrown.
    private static void open() {
        range("8: person", 0, 9, (house, number) -> house.open(number));
    }

    private static void openOfTheBarred() {
        Due.isThrown("8: barred", Due.STATE, Houses::busy, h -> h.open(3));
        Due.isThrown("8: barred and full", Due.STATE, Houses::full, h -> h.open(2));
        Due.is("8: with the risk 2", Houses.busy().open(9), 6);
    }

    private static void openOfTheThirtyFirst() {
        Supplier<SignOnHouse> allOver = () -> {
            SignOnHouse house = Houses.full();
            house.pass(300);
            return house;
        };
        Due.isThrown("8: the 31st", Due.STATE, Houses::full, h -> h.open(0));
        Due.isThrown("8: the 31st when all are over", Due.STATE, allOver, h -> h.open(0));
        SignOnHouse house = Houses.welcoming();
        for (int session = 10; session < 30; session++) {
            Due.is("8: up to the 30th", house.open(session % 10), session);
        }
    }

    private static void close() {
        sessions("9: session", (house, number) -> house.close(number));
    }

    private static void closeOfWhatIsOver() {
        Due.isThrown("9: closed", Due.STATE, Houses::busy, h -> h.close(4));
        Due.isThrown("9: over by a risk", Due.STATE, Houses::full, h -> h.close(1));
        Due.isThrown("9: idle", Due.STATE, () -> later(30), h -> h.close(0));
        Due.isThrown("9: its key is gone", Due.STATE, () -> withNewKey(0), h -> h.close(0));
        Due.isThrown("9: its term has passed", Due.STATE, () -> used(240), h -> h.close(0));
        Due.is("9: idle for a minute less", later(29).close(0), 29);
        Due.is("9: its key is taken", withNewKey(1).close(0), 0);
        Due.is("9: a minute less than its term", used(239).close(0), 239);
    }

    private static SignOnHouse later(int minutes) {
        SignOnHouse house = Houses.welcoming();
        house.pass(minutes);
        return house;
    }

    private static SignOnHouse withNewKey(int minutes) {
        SignOnHouse house = Houses.welcoming();
        house.changeKeys(minutes);
        return house;
    }

    /** The session 0 is used every 20 minutes; the last step takes what is left of the minutes. */
    private static SignOnHouse used(int minutes) {
        SignOnHouse house = Houses.welcoming();
        while (house.now() + 20 < minutes) {
            house.pass(20);
            house.decide(0, 0, 0);
        }
        house.pass(minutes - house.now());
        return house;
    }

    private static void goesOn() {
        sessions("10: session", (house, number) -> house.goesOn(number));
    }

    private static void changeKeys() {
        range("11: minutes", 0, 300, (house, number) -> house.changeKeys(number));
    }

    private static void isTaken() {
        Call call = (house, number) -> house.isTaken(number);
        for (Supplier<SignOnHouse> made : Houses.ALL) {
            refuses("12: key -1", Due.ARGUMENT, made, call, -1);
        }
        refuses("12: the key 1 of none but 0", Due.ARGUMENT, SignOnHouse::new, call, 1);
        refuses("12: the key 3 of 2", Due.ARGUMENT, Houses::busy, call, 3);
        for (int number : FAR) {
            refuses("12: key far off, " + number, Due.ARGUMENT, Houses::busy, call, number);
        }
    }

    private static void isTakenWhileKeysChange() {
        SignOnHouse house = new SignOnHouse();
        for (int signing = 0; signing < 100; signing++) {
            int next = signing + 1;
            Due.is("12: the key that signs", house.isTaken(signing), true);
            Due.same("12: no such key yet", Due.nameOfThrown(() -> house.isTaken(next)), Due.ARGUMENT);
            Due.is("11: the next number", house.changeKeys(300), next);
        }
    }

    private static void pass() {
        range("13: minutes", 1, 300, (house, number) -> house.pass(number));
    }

    /** A witness of 0 to 9 who is none of these two. */
    private static int witness(int first, int second) {
        int witness = 0;
        while (witness == first || witness == second) {
            witness++;
        }
        return witness;
    }

    private static void breakGlass() {
        range("15: person", 0, 9, (house, n) -> house.breakGlass(n, 5, witness(n, n), witness(n, witness(n, n))));
        range("15: role", 0, 5, (house, n) -> house.breakGlass(9, n, 0, 1));
        range("15: one", 0, 9, (house, n) -> house.breakGlass(witness(n, n), 0, n, witness(n, witness(n, n))));
        range("15: other", 0, 9, (house, n) -> house.breakGlass(witness(n, n), 0, witness(n, witness(n, n)), n));
    }

    // "Throws IllegalArgumentException if .. two of the three people are the same", documented ahead of
    // the exception for a witness that does not serve: in a new house none does.
    private static void breakGlassWithOnePersonTwice() {
        for (Supplier<SignOnHouse> made : Houses.ALL) {
            Due.isThrown("15: person is one", Due.ARGUMENT, made, h -> h.breakGlass(0, 0, 0, 1));
            Due.isThrown("15: person is other", Due.ARGUMENT, made, h -> h.breakGlass(1, 0, 0, 1));
            Due.isThrown("15: one is other", Due.ARGUMENT, made, h -> h.breakGlass(9, 0, 1, 1));
            Due.isThrown("15: all are the same", Due.ARGUMENT, made, h -> h.breakGlass(1, 0, 1, 1));
            Due.isThrown("15: the same and out of range", Due.ARGUMENT, made, h -> h.breakGlass(9, 0, 10, 10));
        }
    }

    private static void breakGlassWithoutService() {
        Due.isThrown("15: in a new house", Due.STATE, SignOnHouse::new, h -> h.breakGlass(0, 0, 1, 2));
        Due.isThrown("15: one has no grant", Due.STATE, Houses::busy, h -> h.breakGlass(5, 0, 4, 0));
        Due.isThrown("15: other has no grant", Due.STATE, Houses::busy, h -> h.breakGlass(5, 0, 0, 4));
        Due.isThrown("15: one is barred", Due.STATE, Houses::busy, h -> h.breakGlass(5, 0, 3, 0));
        Due.isThrown("15: other is barred", Due.STATE, Houses::busy, h -> h.breakGlass(5, 0, 0, 3));
        Due.isThrown("15: neither serves", Due.STATE, Houses::busy, h -> h.breakGlass(5, 0, 3, 4));
        Due.isThrown("15: grants of another role", Due.STATE, Houses::busy, h -> h.breakGlass(4, 5, 0, 1));
        Due.isThrown("15: for a new one too", Due.STATE, Houses::busy, h -> h.breakGlass(5, 0, 0, 9));
        Due.is("15: both serve", Houses.busy().breakGlass(4, 0, 0, 1), 69);
    }

    private static void setCache() {
        range("16: app", 0, 3, (house, number) -> house.setCache(number, 0));
        range("16: minutes", 0, 60, (house, number) -> house.setCache(3, number));
        range("16: minutes of one that keeps", 0, 60, (house, number) -> house.setCache(1, number));
    }

    private static void decide() {
        Due.isThrown("17: app in a new house", Due.ARGUMENT, SignOnHouse::new, h -> h.decide(4, 0, 0));
        range("17: app", 0, 3, (house, number) -> house.decide(number, 0, 5));
        range("17: role", 0, 5, (house, number) -> house.decide(3, 0, number));
        sessions("17: session", (house, number) -> house.decide(3, number, 5));
    }

    // "If several exceptions apply, the one that is documented first is thrown."
    private static void decideWithSeveralFaults() {
        for (int session : new int[] {-1, 6, Integer.MIN_VALUE, Integer.MAX_VALUE}) {
            Due.isThrown("17: app and session", Due.ARGUMENT, Houses::busy, h -> h.decide(4, session, 0));
            Due.isThrown("17: session and role", Due.ARGUMENT, Houses::busy, h -> h.decide(0, session, 6));
            Due.isThrown("17: all three", Due.ARGUMENT, Houses::busy, h -> h.decide(-1, session, -1));
        }
        Due.isThrown("17: app, and the session is over", Due.ARGUMENT, Houses::busy, h -> h.decide(4, 4, 0));
        Due.isThrown("17: role, and the session is over", Due.ARGUMENT, Houses::busy, h -> h.decide(0, 4, 6));
        Due.is("17: the session is over", Houses.busy().decide(0, 4, 5), SignOnHouse.NO_SESSION);
    }

    private static void forget() {
        range("18: app", 0, 3, (house, number) -> house.forget(number, 0));
        range("18: person", 0, 9, (house, number) -> house.forget(1, number));
    }

    private static void stale() {
        range("19: app", 0, 3, (house, number) -> house.stale(number));
    }
}
