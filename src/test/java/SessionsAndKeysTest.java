/** Promises 8 to 14: open, close, goesOn, changeKeys, isTaken, pass, now. */
public final class SessionsAndKeysTest {
    public static void main(String[] args) {
        open();
        openThirty();
        close();
        goesOnWhileUsed();
        goesOnForItsTerm();
        changeKeys();
        changeKeysTwice();
        changeKeysAtOnce();
        isTaken();
        pass();
        now();
        Due.end();
    }

    private static SignOnHouse full() {
        SignOnHouse house = new SignOnHouse();
        house.setRisk(2, 3);
        for (int session = 0; session < 30; session++) {
            house.open(9);
        }
        house.close(7);
        return house;
    }

    private static void useAfter(SignOnHouse house, int session, int minutes) {
        Due.is("13: nothing ends while it is used", house.pass(minutes), 0);
        Due.is("17: it is used", house.decide(3, session, 0), SignOnHouse.REFUSED);
    }

    private static void open() {
        SignOnHouse house = new SignOnHouse();
        Due.is("8: the first", house.open(0), 0);
        Due.is("8: the second", house.open(9), 1);
        Due.is("8: the same person again", house.open(0), 2);
        Due.is("8: it goes on", house.goesOn(2), true);
        house.close(1);
        Due.is("8: numbers are not used again", house.open(9), 3);
        for (int risk = 1; risk <= 2; risk++) {
            house.setRisk(5, risk);
            Due.is("8: with the risk " + risk, house.open(5), 3 + risk);
        }
        house.setRisk(5, 3);
        Due.same("8: barred", Due.nameOfThrown(() -> house.open(5)), Due.STATE);
        Due.is("8: a refusal takes no number", house.open(4), 6);
    }

    private static void openThirty() {
        SignOnHouse house = full();
        Due.is("8: the last goes on", house.goesOn(29), true);
        Due.same("8: a closed one makes no room", Due.nameOfThrown(() -> house.open(0)), Due.STATE);
        Due.same("8: no session 30", Due.nameOfThrown(() -> house.goesOn(30)), Due.INDEX);
        Due.is("8: the last can be closed", house.close(29), 0);
        Due.is("8: the rest ends", house.pass(30), 28);
    }

    private static void close() {
        SignOnHouse house = new SignOnHouse();
        house.open(0);
        Due.is("9: at once", house.close(0), 0);
        house.pass(7);
        house.open(1);
        house.pass(20);
        house.decide(0, 1, 0);
        house.pass(5);
        Due.is("9: since it was opened, not since it was used", house.close(1), 25);
        Due.is("9: it is over", house.goesOn(1), false);
        Due.same("9: closed twice", Due.nameOfThrown(() -> house.close(1)), Due.STATE);
        Due.is("9: decide says so", house.decide(0, 1, 0), SignOnHouse.NO_SESSION);
        house.open(2);
        house.open(2);
        Due.is("9: only that one", house.close(2), 0);
        Due.is("9: the other goes on", house.goesOn(3), true);
        house.pass(30);
        Due.same("9: idle too long", Due.nameOfThrown(() -> house.close(3)), Due.STATE);
        house.open(2);
        house.setRisk(2, 1);
        Due.same("9: cut by a risk", Due.nameOfThrown(() -> house.close(4)), Due.STATE);
        house.open(2);
        house.changeKeys(0);
        Due.same("9: without its key", Due.nameOfThrown(() -> house.close(5)), Due.STATE);
    }

    private static void goesOnWhileUsed() {
        SignOnHouse house = new SignOnHouse();
        house.open(0);
        house.open(1);
        Due.is("10: 29 minutes idle", house.pass(29), 0);
        Due.is("10: goes on", house.goesOn(0), true);
        house.decide(0, 0, 0);
        Due.is("10: looking is no use: 30 minutes idle", house.goesOn(1), true);
        Due.is("10: the idle one ends", house.pass(1), 1);
        Due.is("10: the idle one", house.goesOn(1), false);
        Due.is("10: the used one", house.goesOn(0), true);
        Due.is("10: 29 since the use", house.pass(28), 0);
        Due.is("10: 30 since the use", house.pass(1), 1);
        Due.is("10: over", house.goesOn(0), false);
        house.decide(0, 0, 0);
        Due.is("10: over for good", house.goesOn(0), false);
    }

    private static void goesOnForItsTerm() {
        for (int risk = 0; risk <= 2; risk++) {
            SignOnHouse house = new SignOnHouse();
            house.setRisk(6, risk);
            house.pass(11);
            house.open(6);
            int term = 240 - 60 * risk;
            for (int minutes = 0; minutes + 20 < term; minutes += 20) {
                useAfter(house, 0, 20);
            }
            useAfter(house, 0, 19);
            Due.is("10: one minute before the term", house.goesOn(0), true);
            Due.is("10: at the term of the risk " + risk, house.pass(1), 1);
            Due.is("10: over", house.goesOn(0), false);
        }
    }

    private static void changeKeys() {
        SignOnHouse house = new SignOnHouse();
        house.open(0);
        Due.is("11: the next number", house.changeKeys(20), 1);
        house.open(0);
        house.decide(0, 0, 0);
        Due.is("11: 19 minutes", house.pass(19), 0);
        Due.is("11: still taken", house.isTaken(0), true);
        Due.is("11: the 20th ends what it signed", house.pass(1), 1);
        Due.is("11: not taken", house.isTaken(0), false);
        Due.is("11: over", house.goesOn(0), false);
        Due.is("11: signed with the new one", house.goesOn(1), true);
        Due.is("11: for 300 minutes", house.changeKeys(300), 2);
        house.pass(299);
        Due.is("11: still taken after 299", house.isTaken(1), true);
        house.pass(1);
        Due.is("11: not after 300", house.isTaken(1), false);
        Due.is("11: the signing one stays", house.isTaken(2), true);
    }

    private static void changeKeysTwice() {
        SignOnHouse house = new SignOnHouse();
        house.open(0);
        house.changeKeys(300);
        house.open(1);
        Due.is("11: twice", house.changeKeys(1), 2);
        Due.is("11: the one before the last is gone", house.isTaken(0), false);
        Due.is("11: with its sessions", house.goesOn(0), false);
        Due.is("11: the last is taken", house.isTaken(1), true);
        Due.is("11: with its sessions", house.goesOn(1), true);
        Due.is("11: ends by the minutes told last", house.pass(1), 1);
        Due.is("11: over", house.goesOn(1), false);
        house.open(2);
        house.changeKeys(2);
        house.changeKeys(300);
        Due.is("11: a key that is gone does not come back", house.isTaken(2), false);
        Due.is("11: nor its sessions", house.goesOn(2), false);
    }

    private static void changeKeysAtOnce() {
        SignOnHouse house = new SignOnHouse();
        house.open(0);
        Due.is("11: with 0", house.changeKeys(0), 1);
        Due.is("11: not taken at once", house.isTaken(0), false);
        Due.is("11: over at once", house.goesOn(0), false);
        Due.is("11: a new session", house.open(0), 1);
        Due.is("11: goes on", house.goesOn(1), true);
        Due.is("11: nothing ends by the next minute", house.pass(1), 0);
    }

    private static void isTaken() {
        SignOnHouse house = new SignOnHouse();
        Due.is("12: the first", house.isTaken(0), true);
        for (int key = 1; key <= 40; key++) {
            Due.is("12: the next", house.changeKeys(5), key);
            Due.is("12: it signs", house.isTaken(key), true);
            Due.is("12: the one before", house.isTaken(key - 1), true);
            Due.is("12: the one before that", key > 1 && house.isTaken(key - 2), false);
        }
        house.pass(300);
        Due.is("12: the signing one has no term", house.isTaken(40), true);
        Due.is("12: old ones are gone", house.isTaken(0), false);
        Due.same("12: no such key yet", Due.nameOfThrown(() -> house.isTaken(41)), Due.ARGUMENT);
    }

    private static void pass() {
        SignOnHouse house = new SignOnHouse();
        house.setRisk(1, 2);
        house.open(0);
        house.open(1);
        house.open(2);
        house.close(2);
        house.changeKeys(30);
        Due.is("13: each counts once, for whatever reasons", house.pass(300), 2);
        Due.is("13: not again", house.pass(1), 0);
        house.open(3);
        house.setRisk(3, 1);
        Due.is("13: not what a risk had ended", house.pass(300), 0);
        house.open(4);
        house.pass(10);
        house.open(5);
        Due.is("13: one of two", house.pass(20), 1);
        Due.is("13: the other", house.pass(10), 1);
    }

    private static void now() {
        SignOnHouse house = new SignOnHouse();
        Due.is("14: first", house.now(), 0);
        house.pass(1);
        Due.is("14: one", house.now(), 1);
        house.pass(300);
        Due.is("14: more", house.now(), 301);
        house.open(0);
        house.changeKeys(30);
        house.setCache(0, 7);
        Due.is("14: by pass alone", house.now(), 301);
        for (int i = 0; i < 400; i++) {
            house.pass(300);
        }
        Due.is("14: far on", house.now(), 301 + 400 * 300);
    }
}
