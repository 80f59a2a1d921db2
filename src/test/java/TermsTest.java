import java.util.function.Supplier;

/**
 * The sentences of the document's "Terms", one by one, each on both sides of its boundary. The sentence that
 * a test is for stands above it. What is refused, and that it changes nothing, is in RefusalsTest.
 */
public final class TermsTest {
    private static final int LET_IN = SignOnHouse.LET_IN;
    private static final int REFUSED = SignOnHouse.REFUSED;
    private static final int NO_SESSION = SignOnHouse.NO_SESSION;

    public static void main(String[] args) {
        lettingInEndsWithTheCache();
        minutesPassByPassAlone();
        callsUpToTheLast();
        groupsAndRoles();
        sessionsAndTheirTerms();
        keysAndTheirMinutes();
        breakGlassAndItsWitnesses();
        appsAndTheirCaches();
        Due.end();
    }

    private static void groupsAndRoles() {
        groupsAreEmptyAtFirst();
        ringsOfAllLengths();
        ringsThatAreBrokenAgain();
        personOverManyGroups();
        rolesAreNothingAtFirst();
        allowedByGrants();
        deniedAnywhere();
        allowedByBreakGlass();
        barredIsAllowedNothing();
        riskIsZeroAtFirst();
        barredByTheRiskThree();
    }

    private static void sessionsAndTheirTerms() {
        sessionsAreNumberedFromZero();
        thirtySessions();
        signedWithTheKeyOfTheOpening();
        idleSinceTheOpening();
        idleSinceTheLastUse();
        wholeTermOfEachRisk();
        wholeTermPassedInOneStep();
        wholeTermOfTheRiskAsItIsNow();
        wholeTermThatPassedIsNoLonger();
        overWithItsKey();
        overByClosing();
        overForGood();
        greaterRisks();
        greaterRiskEndsThirty();
    }

    private static void keysAndTheirMinutes() {
        keyZeroSignsAtFirst();
        nextNumberSigns();
        keyBeforeForAllMinutes();
        keysBeforeThat();
    }

    private static void breakGlassAndItsWitnesses() {
        threeDifferentPeople();
        witnessOfARisk();
        witnessByAnyGrant();
        glassHoldsForSixty();
        glassInPlaceOfTheOneBefore();
        glassEndsAtItsOwnMinute();
    }

    private static void appsAndTheirCaches() {
        cacheIsTenAtFirst();
        keptForAllCaches();
        decidesByWhatItKeeps();
        keptFromTheAskingOn();
        keptByPersonAndRole();
        nothingIsKeptWithoutSession();
        forgetsUpToSix();
        staleUpToSixty();
        cacheThatBecomesSmaller();
        cacheThatBecomesLarger();
        whatIsGoneStaysGone();
    }

    private static SignOnHouse later(int minutes) {
        SignOnHouse house = Houses.welcoming();
        pass(house, minutes);
        return house;
    }

    private static void pass(SignOnHouse house, int minutes) {
        if (minutes > 0) {
            house.pass(minutes);
        }
    }

    /** Lets minutes pass; the session is used at their beginning and between them, so that it is never idle. */
    private static int passUsing(SignOnHouse house, int session, int minutes) {
        int end = house.now() + minutes;
        int ended = 0;
        while (house.now() < end) {
            house.decide(2, session, 0);
            ended += house.pass(Math.min(29, end - house.now()));
        }
        return ended;
    }

    // "No app lets in whom the house would bar for longer than its cache is allowed."
    private static void lettingInEndsWithTheCache() {
        for (int cache = 0; cache <= 60; cache++) {
            SignOnHouse house = Houses.welcoming();
            house.setCache(1, cache);
            house.decide(1, 0, 0);
            house.setPerson(0, 0, false);
            for (int minute = 0; minute <= 61; minute++) {
                int due = minute < cache ? LET_IN : REFUSED;
                Due.is("Terms: cache " + cache + ", minute " + minute, house.decide(1, 0, 0), due);
                house.pass(1);
            }
        }
    }

    // "Minutes are counted from 0; they pass by calls."
    private static void minutesPassByPassAlone() {
        Due.is("Terms: counted from 0", new SignOnHouse().now(), 0);
        SignOnHouse house = Houses.busy();
        house.setPerson(3, 3, true);
        house.setGroup(3, 4, true);
        house.setRole(3, 3, 2);
        house.setRisk(8, 1);
        house.isIn(0, 0);
        house.allows(0, 0);
        house.open(8);
        house.close(0);
        house.goesOn(1);
        house.changeKeys(300);
        house.isTaken(1);
        house.breakGlass(6, 0, 0, 1);
        house.setCache(0, 60);
        house.decide(0, 1, 0);
        house.forget(0, 1);
        house.stale(0);
        Due.same("Terms: 301 are refused", Due.answer(() -> house.pass(301)), "throws." + Due.ARGUMENT);
        Due.is("Terms: no other call lets minutes pass", house.now(), 9);
        house.pass(1);
        Due.is("Terms: the fewest", house.now(), 10);
        house.pass(300);
        Due.is("Terms: the most", house.now(), 310);
    }

    // "An object is used for at most 512 calls after it has been made"
    private static void callsUpToTheLast() {
        SignOnHouse minutes = new SignOnHouse();
        SignOnHouse keys = new SignOnHouse();
        SignOnHouse roles = new SignOnHouse();
        for (int call = 1; call < 512; call++) {
            minutes.pass(300);
            Due.is("Terms: keys of many calls", keys.changeKeys(call % 301), call);
            Due.is("Terms: roles of many calls", roles.setRole(7, 5, call % 3), (call - 1) % 3);
        }
        Due.is("Terms: minutes at the 512th call", minutes.now(), 511 * 300);
        Due.is("Terms: the key of the 512th call", keys.changeKeys(0), 512);
        Due.is("Terms: the role of the 512th call", roles.setRole(7, 5, 0), 511 % 3);
    }

    // "A group has people, and other groups as members, none at first"
    private static void groupsAreEmptyAtFirst() {
        SignOnHouse house = new SignOnHouse();
        for (int group = 0; group < 8; group++) {
            for (int person = 0; person < 10; person++) {
                Due.is("Terms: nobody is in it", house.isIn(group, person), false);
                Due.is("Terms: nobody was", house.setPerson(group, person, false), false);
            }
            for (int inner = 0; inner < 8; inner++) {
                Due.is("Terms: no group was", inner != group && house.setGroup(group, inner, false), false);
            }
        }
    }

    // "no group is in itself, directly or over others"
    private static void ringsOfAllLengths() {
        for (int length = 2; length <= 8; length++) {
            for (int turn = 0; turn < 8; turn++) {
                SignOnHouse house = new SignOnHouse();
                for (int link = 0; link < length - 1; link++) {
                    boolean was = house.setGroup(ringGroup(link, turn), ringGroup(link + 1, turn), true);
                    Due.is("Terms: a chain is no ring", was, false);
                }
                int last = ringGroup(length - 1, turn);
                int first = ringGroup(0, turn);
                Due.same("Terms: a ring of " + length, Due.answer(() -> house.setGroup(last, first, true) ? 1 : 0),
                        "throws." + Due.STATE);
                Due.is("Terms: it was not put in", house.setGroup(last, first, false), false);
            }
        }
    }

    /** The groups in eight orders, so that rings run upwards, downwards and across. */
    private static int ringGroup(int place, int turn) {
        return (place * (turn % 2 == 0 ? 3 : 7) + turn) % 8;
    }

    // "no group is in itself, directly or over others": two ways lead from 0 to 3, and each of them counts.
    private static void ringsThatAreBrokenAgain() {
        SignOnHouse house = new SignOnHouse();
        house.setGroup(0, 1, true);
        house.setGroup(1, 3, true);
        house.setGroup(0, 2, true);
        house.setGroup(2, 3, true);
        String refused = "throws." + Due.STATE;
        Due.same("Terms: by both ways", Due.answer(() -> house.setGroup(3, 0, true) ? 1 : 0), refused);
        house.setGroup(0, 1, false);
        Due.same("Terms: by the other way", Due.answer(() -> house.setGroup(3, 0, true) ? 1 : 0), refused);
        house.setGroup(2, 3, false);
        Due.is("Terms: by no way", house.setGroup(3, 0, true), false);
        Due.same("Terms: the ring from its other side", Due.answer(() -> house.setGroup(2, 3, true) ? 1 : 0), refused);
        Due.same("Terms: the longer one", Due.answer(() -> house.setGroup(0, 1, true) ? 1 : 0), refused);
    }

    // "A person is in a group directly, or by a group in which the person is and that is in it, directly or
    // over others."
    private static void personOverManyGroups() {
        for (int turn = 0; turn < 8; turn++) {
            SignOnHouse house = new SignOnHouse();
            for (int link = 0; link < 7; link++) {
                house.setGroup(ringGroup(link, turn), ringGroup(link + 1, turn), true);
            }
            for (int place = 0; place < 8; place++) {
                house.setPerson(ringGroup(place, turn), place, true);
            }
            for (int place = 0; place < 8; place++) {
                for (int person = 0; person < 10; person++) {
                    boolean due = person < 8 && place <= person;
                    Due.is("Terms: over groups", house.isIn(ringGroup(place, turn), person), due);
                }
            }
        }
    }

    // "A group may be granted roles and denied roles, none at first."
    private static void rolesAreNothingAtFirst() {
        SignOnHouse house = new SignOnHouse();
        for (int group = 0; group < 8; group++) {
            for (int role = 0; role < 6; role++) {
                Due.is("Terms: nothing at first", house.setRole(group, role, 1 + (group + role) % 2), 0);
            }
        }
        for (int group = 0; group < 8; group++) {
            for (int role = 0; role < 6; role++) {
                Due.is("Terms: each its own", house.setRole(group, role, 0), 1 + (group + role) % 2);
            }
        }
    }

    // "The house allows a person a role if a group in which the person is has been granted it, .."
    private static void allowedByGrants() {
        SignOnHouse house = chainOfAll();
        for (int group = 0; group < 8; group++) {
            Due.is("Terms: no grant", house.allows(0, 5), false);
            house.setRole(group, 5, 1);
            Due.is("Terms: a grant of one group", house.allows(0, 5), true);
            Due.is("Terms: for another role", house.allows(0, 4), false);
            Due.is("Terms: for another person", house.allows(1, 5), false);
            house.setRole(group, 5, 0);
        }
    }

    /** Group 0 around 1 around 2 up to 7, in which person 0 is. */
    private static SignOnHouse chainOfAll() {
        SignOnHouse house = new SignOnHouse();
        for (int group = 0; group < 7; group++) {
            house.setGroup(group, group + 1, true);
        }
        house.setPerson(7, 0, true);
        return house;
    }

    // ".. and none in which the person is has been denied it"
    private static void deniedAnywhere() {
        for (int granted = 0; granted < 8; granted++) {
            SignOnHouse house = chainOfAll();
            house.setRole(granted, 5, 1);
            for (int denied = 0; denied < 8; denied++) {
                if (denied != granted) {
                    house.setRole(denied, 5, 2);
                    Due.is("Terms: a denial of one group", house.allows(0, 5), false);
                    house.setRole(denied, 5, 0);
                    Due.is("Terms: no denial", house.allows(0, 5), true);
                }
            }
            house.setRole(granted, 5, 2);
            Due.is("Terms: denied in the same group", house.allows(0, 5), false);
        }
    }

    // ".. or if the person has a break-glass for it that holds."
    private static void allowedByBreakGlass() {
        for (int what = 0; what <= 2; what++) {
            SignOnHouse house = Houses.welcoming();
            house.setPerson(0, 7, false);
            house.setPerson(1, 7, true);
            house.setRole(1, 3, what);
            Due.is("Terms: without one", house.allows(7, 3), what == 1);
            house.breakGlass(7, 3, 0, 1);
            Due.is("Terms: with one", house.allows(7, 3), true);
            house.pass(59);
            Due.is("Terms: it holds", house.allows(7, 3), true);
            house.pass(1);
            Due.is("Terms: it holds no more", house.allows(7, 3), what == 1);
        }
    }

    // "An account that is barred is allowed nothing."
    private static void barredIsAllowedNothing() {
        SignOnHouse house = Houses.welcoming();
        house.breakGlass(4, 2, 0, 1);
        house.setRisk(4, 2);
        for (int role = 0; role < 6; role++) {
            Due.is("Terms: with the risk 2", house.allows(4, role), true);
        }
        house.setRisk(4, 3);
        for (int role = 0; role < 6; role++) {
            Due.is("Terms: barred", house.allows(4, role), false);
        }
        house.setPerson(0, 4, false);
        house.setRisk(4, 0);
        for (int role = 0; role < 6; role++) {
            Due.is("Terms: by the break-glass alone", house.allows(4, role), role == 2);
        }
    }

    // "A person has a risk from 0 to 3, 0 at first."
    private static void riskIsZeroAtFirst() {
        for (int person = 0; person < 10; person++) {
            SignOnHouse house = new SignOnHouse();
            house.open(person);
            Due.is("Terms: 0 is not greater than the first", house.setRisk(person, 0), 0);
            Due.is("Terms: 1 is", house.setRisk(person, 1), 1);
            Due.is("Terms: up to 3", house.setRisk(person, 3), 0);
            int last = person;
            Due.same("Terms: no risk -1", Due.answer(() -> house.setRisk(last, -1)), "throws." + Due.ARGUMENT);
            Due.same("Terms: no risk 4", Due.answer(() -> house.setRisk(last, 4)), "throws." + Due.ARGUMENT);
        }
    }

    // "With the risk 3 an account is barred."
    private static void barredByTheRiskThree() {
        for (int risk = 0; risk <= 3; risk++) {
            SignOnHouse house = Houses.welcoming();
            house.setRisk(9, risk);
            boolean barred = risk == 3;
            Due.is("Terms: allows with the risk " + risk, house.allows(9, 0), !barred);
            Due.same("Terms: open with it", Due.answer(() -> house.open(9)), barred ? "throws." + Due.STATE : "10");
            Due.same("Terms: a witness with it", Due.answer(() -> house.breakGlass(0, 0, 1, 9)),
                    barred ? "throws." + Due.STATE : "60");
            Due.is("Terms: others are not barred", house.allows(8, 0), true);
        }
    }

    // "Sessions are numbered from 0"
    private static void sessionsAreNumberedFromZero() {
        SignOnHouse house = new SignOnHouse();
        for (int session = 0; session < 30; session++) {
            int next = session;
            Due.same("Terms: not opened yet", Due.answer(() -> house.goesOn(next) ? 1 : 0), "throws." + Due.INDEX);
            Due.is("Terms: the next number", house.open(session % 10), session);
            Due.is("Terms: it goes on", house.goesOn(session), true);
            house.close(session);
        }
    }

    // "at most 30 are opened"
    private static void thirtySessions() {
        SignOnHouse house = Houses.welcoming();
        for (int session = 10; session < 29; session++) {
            house.open(0);
        }
        Due.is("Terms: the 30th", house.open(9), 29);
        Due.same("Terms: no 31st", Due.answer(() -> house.open(9)), "throws." + Due.STATE);
        Due.is("Terms: all end once", house.pass(30), 30);
        Due.same("Terms: none though all are over", Due.answer(() -> house.open(9)), "throws." + Due.STATE);
        Due.is("Terms: the 30th is known", house.goesOn(29), false);
    }

    // "it is signed with the key that signs when it is opened"
    private static void signedWithTheKeyOfTheOpening() {
        SignOnHouse house = new SignOnHouse();
        house.open(0);
        house.changeKeys(10);
        house.open(0);
        house.pass(9);
        Due.is("Terms: both go on", house.goesOn(0) && house.goesOn(1), true);
        Due.is("Terms: one by the key before", house.pass(1), 1);
        Due.is("Terms: opened before the change", house.goesOn(0), false);
        Due.is("Terms: opened after it, in the same minute", house.goesOn(1), true);
        house.changeKeys(5);
        Due.is("Terms: by its own key's end", house.pass(5), 1);
        Due.is("Terms: over", house.goesOn(1), false);
    }

    // "idle for 30 minutes: so many have passed since it was opened"
    private static void idleSinceTheOpening() {
        for (int first = 0; first <= 29; first++) {
            SignOnHouse house = new SignOnHouse();
            house.open(0);
            pass(house, first);
            pass(house, 29 - first);
            Due.is("Terms: idle for 29", house.goesOn(0), true);
            Due.is("Terms: the 30th ends it", house.pass(1), 1);
            Due.is("Terms: idle for 30", house.goesOn(0), false);
        }
        for (int minutes = 1; minutes <= 300; minutes++) {
            SignOnHouse house = new SignOnHouse();
            house.pass(7);
            house.open(0);
            Due.is("Terms: idle for " + minutes + " at once", house.pass(minutes), minutes < 30 ? 0 : 1);
        }
    }

    // ".. or used last", and decide: "A session that goes on is used by that."
    private static void idleSinceTheLastUse() {
        for (int use = 0; use <= 29; use++) {
            SignOnHouse house = Houses.welcoming();
            pass(house, use);
            house.decide(3, 4, 5);
            Due.is("Terms: the others are idle", house.pass(29), use == 0 ? 0 : 9);
            Due.is("Terms: 29 since the use at " + use, house.goesOn(4), true);
            Due.is("Terms: the 30th", house.pass(1), use == 0 ? 10 : 1);
            Due.is("Terms: 30 since the use", house.goesOn(4), false);
        }
        SignOnHouse house = later(29);
        house.goesOn(0);
        house.open(0);
        Due.same("Terms: a refused call", Due.answer(() -> house.decide(0, 0, 6)), "throws." + Due.ARGUMENT);
        Due.is("Terms: nothing else is a use", house.pass(1), 10);
    }

    // "when its whole term has passed since it was opened, which is 240 minutes less 60 times the risk"
    private static void wholeTermOfEachRisk() {
        for (int risk = 0; risk <= 2; risk++) {
            int term = 240 - 60 * risk;
            SignOnHouse house = new SignOnHouse();
            house.setRisk(3, risk);
            house.pass(17);
            house.open(3);
            Due.is("Terms: a minute less", passUsing(house, 0, term - 1), 0);
            Due.is("Terms: it goes on", house.decide(0, 0, 0), REFUSED);
            Due.is("Terms: at " + term, house.pass(1), 1);
            Due.is("Terms: used in the minute before, yet over", house.goesOn(0), false);
        }
    }

    // "when its whole term has passed": also when a step goes past its end.
    private static void wholeTermPassedInOneStep() {
        for (int step = 1; step <= 29; step++) {
            SignOnHouse house = new SignOnHouse();
            house.open(0);
            passUsing(house, 0, 239);
            house.decide(0, 0, 0);
            Due.is("Terms: by a step of " + step, house.pass(step), 1);
            Due.is("Terms: over, though used in time", house.goesOn(0), false);
        }
    }

    // ".. of the person as it is now": a risk that becomes smaller makes the term of what goes on longer.
    private static void wholeTermOfTheRiskAsItIsNow() {
        int[][] changes = {{2, 1}, {2, 0}, {1, 0}};
        for (int[] change : changes) {
            SignOnHouse house = new SignOnHouse();
            house.setRisk(3, change[0]);
            house.setRisk(4, change[0]);
            house.open(3);
            int old = 240 - 60 * change[0];
            int term = 240 - 60 * change[1];
            passUsing(house, 0, old - 1);
            house.decide(0, 0, 0);
            Due.is("Terms: none ends by that", house.setRisk(3, change[1]), 0);
            Due.is("Terms: past the old term", passUsing(house, 0, 1), 0);
            Due.is("Terms: it goes on", house.goesOn(0), true);
            Due.is("Terms: up to the new one", passUsing(house, 0, term - old - 1), 0);
            Due.is("Terms: it goes on still", house.decide(0, 0, 0), REFUSED);
            Due.is("Terms: at the new one", house.pass(1), 1);
        }
    }

    // "It is over for good .. when its whole term has passed": a smaller risk afterwards is too late.
    private static void wholeTermThatPassedIsNoLonger() {
        SignOnHouse house = new SignOnHouse();
        house.setRisk(3, 2);
        house.open(3);
        Due.is("Terms: over at 120", passUsing(house, 0, 120), 1);
        Due.is("Terms: a smaller risk", house.setRisk(3, 0), 0);
        Due.is("Terms: is too late", house.goesOn(0), false);
        Due.is("Terms: for the app too", house.decide(0, 0, 0), NO_SESSION);
        Due.is("Terms: it does not end twice", house.pass(300), 0);
    }

    // "when its key is no longer taken"
    private static void overWithItsKey() {
        for (int minutes = 0; minutes <= 29; minutes++) {
            SignOnHouse house = new SignOnHouse();
            house.open(0);
            house.changeKeys(minutes);
            pass(house, minutes - 1);
            Due.is("Terms: its key is taken", house.goesOn(0), minutes > 0);
            Due.is("Terms: its key's end", house.pass(1), minutes > 0 ? 1 : 0);
            Due.is("Terms: over with its key", house.goesOn(0), false);
        }
    }

    // ".. or when it was closed."
    private static void overByClosing() {
        SignOnHouse house = later(29);
        Due.is("Terms: it goes on", house.goesOn(9), true);
        Due.is("Terms: for so many minutes it went on", house.close(9), 29);
        Due.is("Terms: closed", house.goesOn(9), false);
        Due.is("Terms: no other", house.goesOn(8), true);
        Due.is("Terms: the closed one does not end again", house.pass(1), 9);
        SignOnHouse atOnce = Houses.welcoming();
        Due.is("Terms: closed at once", atOnce.close(0), 0);
        SignOnHouse longest = new SignOnHouse();
        longest.open(0);
        passUsing(longest, 0, 239);
        Due.is("Terms: closed as late as can be", longest.close(0), 239);
    }

    // "It is over for good"
    private static void overForGood() {
        staysOver("idle", later(30));
        SignOnHouse closed = Houses.welcoming();
        closed.close(0);
        staysOver("closed", closed);
        SignOnHouse risk = Houses.welcoming();
        risk.setRisk(0, 2);
        staysOver("a risk", risk);
        SignOnHouse key = Houses.welcoming();
        key.changeKeys(0);
        staysOver("its key", key);
        SignOnHouse term = Houses.welcoming();
        passUsing(term, 0, 240);
        staysOver("its term", term);
    }

    private static void staysOver(String reason, SignOnHouse house) {
        for (int turn = 0; turn < 3; turn++) {
            Due.is("Terms: over by " + reason, house.goesOn(0), false);
            Due.is("Terms: an app by " + reason, house.decide(turn, 0, 0), NO_SESSION);
            Due.same("Terms: closing by " + reason, Due.answer(() -> house.close(0)), "throws." + Due.STATE);
            house.setRisk(0, 0);
            house.changeKeys(300);
            house.pass(1);
        }
        Due.is("Terms: it ends once, by " + reason, house.setRisk(0, 1), 0);
    }

    // "Whenever the risk of a person becomes greater, all sessions of that person are over."
    private static void greaterRisks() {
        for (int before = 0; before <= 2; before++) {
            for (int risk = 0; risk <= 3; risk++) {
                SignOnHouse house = new SignOnHouse();
                house.setRisk(6, before);
                house.open(6);
                house.open(5);
                house.open(6);
                boolean greater = risk > before;
                Due.is("Terms: from " + before + " to " + risk, house.setRisk(6, risk), greater ? 2 : 0);
                Due.is("Terms: the first", house.goesOn(0), !greater);
                Due.is("Terms: the last", house.goesOn(2), !greater);
                Due.is("Terms: of another person", house.goesOn(1), true);
            }
        }
        SignOnHouse house = new SignOnHouse();
        house.setRisk(6, 3);
        house.setRisk(6, 0);
        house.open(6);
        Due.is("Terms: greater than it was last", house.setRisk(6, 1), 1);
    }

    // "all sessions of that person": as many as can be opened, and setRisk returns how many.
    private static void greaterRiskEndsThirty() {
        SignOnHouse house = new SignOnHouse();
        for (int session = 0; session < 30; session++) {
            house.open(9);
        }
        Due.is("5: the same risk", house.setRisk(9, 0), 0);
        Due.is("5: of a person without sessions", house.setRisk(0, 3), 0);
        Due.is("5: all 30", house.setRisk(9, 1), 30);
        Due.is("5: none is left", house.setRisk(9, 2), 0);
    }

    // "Keys are numbered from 0. One key signs, the key 0 at first."
    private static void keyZeroSignsAtFirst() {
        SignOnHouse house = new SignOnHouse();
        Due.is("Terms: the key 0", house.isTaken(0), true);
        Due.same("Terms: no key 1", Due.answer(() -> house.isTaken(1) ? 1 : 0), "throws." + Due.ARGUMENT);
        house.pass(300);
        Due.is("Terms: the one that signs has no end", house.isTaken(0), true);
    }

    // "A change of keys makes the next number the key that signs"
    private static void nextNumberSigns() {
        SignOnHouse house = new SignOnHouse();
        for (int key = 1; key <= 50; key++) {
            Due.is("Terms: the next number", house.changeKeys(key % 2 == 0 ? 0 : 300), key);
            Due.is("Terms: it is taken", house.isTaken(key), true);
            int next = key + 1;
            Due.same("Terms: the one after", Due.answer(() -> house.isTaken(next) ? 1 : 0), "throws." + Due.ARGUMENT);
        }
    }

    // "the one before it is still taken for some minutes, told at the change, and not any more when as many
    // have passed", and "with 0 it is not taken any more at once"
    private static void keyBeforeForAllMinutes() {
        for (int minutes = 0; minutes <= 300; minutes++) {
            SignOnHouse house = new SignOnHouse();
            house.pass(3);
            house.changeKeys(minutes);
            Due.is("Terms: at the change, for " + minutes, house.isTaken(0), minutes > 0);
            if (minutes > 0) {
                pass(house, minutes - 1);
                Due.is("Terms: the last minute of " + minutes, house.isTaken(0), true);
                house.pass(1);
            }
            Due.is("Terms: when as many have passed", house.isTaken(0), false);
            Due.is("Terms: the one that signs", house.isTaken(1), true);
        }
        for (int minutes = 0; minutes < 300; minutes++) {
            SignOnHouse house = new SignOnHouse();
            house.changeKeys(minutes);
            house.pass(minutes + 1);
            Due.is("Terms: when more have passed at once", house.isTaken(0), false);
        }
    }

    // "those before that are no longer taken"
    private static void keysBeforeThat() {
        SignOnHouse house = new SignOnHouse();
        house.changeKeys(300);
        house.open(0);
        Due.is("Terms: one before", house.isTaken(0), true);
        house.changeKeys(300);
        Due.is("Terms: two before", house.isTaken(0), false);
        Due.is("Terms: one before, as told last", house.isTaken(1), true);
        house.changeKeys(0);
        Due.is("Terms: three before", house.isTaken(0), false);
        Due.is("Terms: two before, though 300 were told", house.isTaken(1), false);
        Due.is("Terms: one before, with 0", house.isTaken(2), false);
        Due.is("Terms: what it signed", house.goesOn(0), false);
    }

    // "A person gets one for a role by two witnesses, other people, different ones."
    private static void threeDifferentPeople() {
        SignOnHouse house = null;
        for (int triple = 0; triple < 1000; triple++) {
            if (triple % 100 == 0) {
                house = Houses.welcoming();
            }
            int person = triple / 100;
            int one = triple / 10 % 10;
            int other = triple % 10;
            boolean different = person != one && person != other && one != other;
            SignOnHouse asked = house;
            Due.same("Terms: the people " + triple, Due.answer(() -> asked.breakGlass(person, 1, one, other)),
                    different ? "60" : "throws." + Due.ARGUMENT);
        }
    }

    // "A witness serves if the own account is not barred, .."
    private static void witnessOfARisk() {
        for (int risk = 0; risk <= 3; risk++) {
            SignOnHouse house = Houses.welcoming();
            house.setRisk(1, risk);
            house.setRisk(2, risk);
            String due = risk < 3 ? "60" : "throws." + Due.STATE;
            Due.same("Terms: one with the risk " + risk, Due.answer(() -> house.breakGlass(0, 0, 1, 3)), due);
            Due.same("Terms: other with it", Due.answer(() -> house.breakGlass(0, 0, 3, 1)), due);
            Due.same("Terms: both with it", Due.answer(() -> house.breakGlass(0, 0, 1, 2)), due);
            Due.is("Terms: the person's own risk is none of it", house.breakGlass(1, 0, 3, 4), 60);
        }
    }

    // ".. and the witness is in some group that has been granted this role."
    private static void witnessByAnyGrant() {
        SignOnHouse house = chainOfAll();
        house.setPerson(7, 1, true);
        String refused = "throws." + Due.STATE;
        for (int group = 0; group < 8; group++) {
            Due.same("Terms: no grant", Due.answer(() -> house.breakGlass(9, 5, 0, 1)), refused);
            house.setRole(group, 5, 1);
            Due.same("Terms: a grant of some group", Due.answer(() -> house.breakGlass(9, 5, 0, 1)), "60");
            Due.same("Terms: not of this role", Due.answer(() -> house.breakGlass(9, 4, 0, 1)), refused);
            Due.same("Terms: one is in no group", Due.answer(() -> house.breakGlass(9, 5, 8, 1)), refused);
            Due.same("Terms: other is in no group", Due.answer(() -> house.breakGlass(9, 5, 0, 8)), refused);
            house.setRole((group + 1) % 8, 5, 2);
            Due.same("Terms: denied in another", Due.answer(() -> house.breakGlass(9, 5, 1, 0)), "60");
            house.setRole((group + 1) % 8, 5, 0);
            house.setRole(group, 5, 2);
            Due.same("Terms: a denial is no grant", Due.answer(() -> house.breakGlass(9, 5, 0, 1)), refused);
            house.setRole(group, 5, 0);
        }
    }

    // "It holds for 60 minutes, at the 60th not any more"
    private static void glassHoldsForSixty() {
        for (int first = 1; first <= 59; first++) {
            SignOnHouse house = Houses.welcoming();
            house.setPerson(0, 9, false);
            house.pass(first);
            Due.is("Terms: its end", house.breakGlass(9, 5, 0, 1), first + 60);
            house.pass(first);
            Due.is("Terms: it holds", house.allows(9, 5), true);
            pass(house, 59 - first);
            Due.is("Terms: at the 59th", house.allows(9, 5), true);
            house.pass(1);
            Due.is("Terms: at the 60th", house.allows(9, 5), false);
        }
        for (int minutes = 1; minutes <= 300; minutes++) {
            SignOnHouse house = Houses.welcoming();
            house.setPerson(0, 9, false);
            house.breakGlass(9, 0, 0, 1);
            house.pass(minutes);
            Due.is("Terms: at once after " + minutes, house.allows(9, 0), minutes < 60);
        }
    }

    // "a new one of the person for the same role in place of the one before"
    private static void glassInPlaceOfTheOneBefore() {
        for (int after = 0; after <= 61; after++) {
            SignOnHouse house = Houses.welcoming();
            house.setPerson(0, 9, false);
            house.breakGlass(9, 5, 0, 1);
            pass(house, after);
            Due.is("Terms: the new one's end", house.breakGlass(9, 5, 2, 3), after + 60);
            house.pass(59);
            Due.is("Terms: at the 59th of the new one", house.allows(9, 5), true);
            house.pass(1);
            Due.is("Terms: at the 60th of the new one", house.allows(9, 5), false);
        }
    }

    // "of the person for the same role": those of other people and roles stand beside it.
    private static void glassEndsAtItsOwnMinute() {
        SignOnHouse house = Houses.welcoming();
        house.setPerson(0, 8, false);
        house.setPerson(0, 9, false);
        house.breakGlass(9, 5, 0, 1);
        house.pass(1);
        house.breakGlass(9, 4, 0, 1);
        house.pass(1);
        house.breakGlass(8, 5, 0, 1);
        house.pass(57);
        Due.is("Terms: all three hold", house.allows(9, 5) && house.allows(9, 4) && house.allows(8, 5), true);
        house.pass(1);
        Due.is("Terms: the first has ended", house.allows(9, 5), false);
        Due.is("Terms: that of another role not", house.allows(9, 4), true);
        house.pass(1);
        Due.is("Terms: it ends a minute later", house.allows(9, 4), false);
        Due.is("Terms: that of another person not", house.allows(8, 5), true);
        house.pass(1);
        Due.is("Terms: it ends as the last", house.allows(8, 5), false);
    }

    // "for as many minutes as its cache is allowed, 0 to 60, 10 at first"
    private static void cacheIsTenAtFirst() {
        for (int app = 0; app < 4; app++) {
            SignOnHouse house = Houses.welcoming();
            house.decide(app, 0, 0);
            house.setRole(0, 0, 2);
            house.pass(9);
            Due.is("Terms: kept for 9", house.stale(app), 1);
            house.pass(1);
            Due.is("Terms: not for 10", house.stale(app), 0);
            Due.is("Terms: 10 at first", house.setCache(app, 60), 10);
            Due.is("Terms: up to 60", house.setCache(app, 0), 60);
            Due.is("Terms: down to 0", house.setCache(app, 0), 0);
        }
    }

    // "when as many have passed, it is gone"
    private static void keptForAllCaches() {
        for (int cache = 0; cache <= 60; cache++) {
            for (int minutes = 0; minutes <= 61; minutes++) {
                SignOnHouse house = Houses.welcoming();
                house.setCache(2, cache);
                house.decide(2, 9, 5);
                pass(house, minutes);
                house.setRole(0, 5, 0);
                int due = minutes < cache ? 1 : 0;
                Due.is("Terms: stale, cache " + cache + ", minute " + minutes, house.stale(2), due);
                Due.is("Terms: kept, cache " + cache + ", minute " + minutes, house.forget(2, 9), due);
            }
        }
    }

    // "while it keeps one, it decides by that, whatever the house would say"
    private static void decidesByWhatItKeeps() {
        SignOnHouse house = Houses.welcoming();
        house.setRole(0, 1, 0);
        Due.is("Terms: let in", house.decide(0, 0, 0), LET_IN);
        Due.is("Terms: refused", house.decide(0, 0, 1), REFUSED);
        house.setRole(0, 0, 2);
        house.setRole(0, 1, 1);
        house.pass(9);
        Due.is("Terms: the house says otherwise", house.allows(0, 0), false);
        Due.is("Terms: let in all the same", house.decide(0, 0, 0), LET_IN);
        Due.is("Terms: and otherwise here", house.allows(0, 1), true);
        Due.is("Terms: refused all the same", house.decide(0, 0, 1), REFUSED);
        house.pass(1);
        Due.is("Terms: let in no more", house.decide(0, 0, 0), REFUSED);
        Due.is("Terms: refused no more", house.decide(0, 0, 1), LET_IN);
    }

    // "If it keeps none, it asks the house, .. and keeps that, from then on."
    private static void keptFromTheAskingOn() {
        for (int asked = 0; asked <= 20; asked++) {
            SignOnHouse house = Houses.welcoming();
            pass(house, asked);
            house.decide(0, 0, 0);
            house.setRole(0, 0, 0);
            for (int minute = 1; minute <= 9; minute++) {
                house.pass(1);
                Due.is("Terms: kept from the minute " + asked, house.decide(0, 0, 0), LET_IN);
            }
            house.pass(1);
            Due.is("Terms: deciding by it keeps it no longer", house.decide(0, 0, 0), REFUSED);
            house.setRole(0, 0, 1);
            house.pass(9);
            Due.is("Terms: what was asked then is kept", house.decide(0, 0, 0), REFUSED);
            house.pass(1);
            Due.is("Terms: from then on", house.decide(0, 0, 0), LET_IN);
        }
    }

    // "It keeps each decision by person and role"
    private static void keptByPersonAndRole() {
        SignOnHouse house = Houses.welcoming();
        for (int person = 0; person < 10; person++) {
            for (int role = 0; role < 6; role++) {
                house.setRole(0, role, (person + role) % 2);
                house.decide(3, person, role);
            }
        }
        house.open(9);
        house.close(9);
        for (int role = 0; role < 6; role++) {
            house.setRole(0, role, 1 - (9 + role) % 2);
            int due = (9 + role) % 2 == 1 ? LET_IN : REFUSED;
            Due.is("Terms: by another session of the person", house.decide(3, 10, role), due);
        }
        for (int person = 0; person < 9; person++) {
            for (int role = 0; role < 6; role++) {
                int due = (person + role) % 2 == 1 ? LET_IN : REFUSED;
                Due.is("Terms: each its own", house.decide(3, person, role), due);
            }
        }
        Due.is("Terms: and each app", house.decide(2, 0, 0), REFUSED);
    }

    // "A session that is over is refused, and nothing is asked or kept."
    private static void nothingIsKeptWithoutSession() {
        Supplier<SignOnHouse> closed = () -> {
            SignOnHouse house = Houses.welcoming();
            house.decide(1, 0, 1);
            house.close(0);
            return house;
        };
        for (int role = 0; role < 6; role++) {
            SignOnHouse house = closed.get();
            Due.is("Terms: kept or not", house.decide(1, 0, role), NO_SESSION);
            Due.is("Terms: nothing more is kept", house.forget(1, 0), 1);
            Due.is("Terms: another app", house.decide(0, 0, role), NO_SESSION);
            Due.is("Terms: keeps nothing", house.forget(0, 0), 0);
        }
        SignOnHouse idle = later(29);
        idle.decide(0, 1, 0);
        idle.pass(1);
        Due.is("Terms: idle for 30", idle.decide(0, 0, 0), NO_SESSION);
        Due.is("Terms: nothing is kept", idle.forget(0, 0), 0);
        Due.is("Terms: one that goes on", idle.decide(0, 1, 0), LET_IN);
    }

    // "An app can be told to forget all that it keeps of a person.", and forget returns how many decisions.
    private static void forgetsUpToSix() {
        for (int kept = 0; kept <= 6; kept++) {
            SignOnHouse house = Houses.welcoming();
            for (int role = 0; role < kept; role++) {
                house.decide(3, 9, role);
                house.decide(3, 8, role);
                house.decide(2, 9, role);
            }
            for (int role = 0; role < 6; role++) {
                house.setRole(0, role, 0);
            }
            Due.is("18: all of the person", house.forget(3, 9), kept);
            Due.is("18: none is left", house.forget(3, 9), 0);
            Due.is("18: of another person", house.stale(3), kept);
            Due.is("18: of another app", house.stale(2), kept);
            Due.is("18: decided anew", house.decide(3, 9, 0), REFUSED);
        }
    }

    // stale: "Counts the decisions that an app keeps and that the house would make otherwise now."
    private static void staleUpToSixty() {
        SignOnHouse house = Houses.welcoming();
        for (int person = 0; person < 10; person++) {
            for (int role = 0; role < 6; role++) {
                house.decide(3, person, role);
            }
        }
        Due.is("19: none", house.stale(3), 0);
        for (int role = 0; role < 6; role++) {
            house.setRole(0, role, role % 2 * 2);
            Due.is("19: of each person", house.stale(3), 10 * (role + 1));
        }
        house.setRole(0, 5, 1);
        Due.is("19: as the house says again", house.stale(3), 50);
        house.setRisk(0, 3);
        Due.is("19: of a barred one all", house.stale(3), 51);
        house.pass(9);
        Due.is("19: in the last minute", house.stale(3), 51);
        house.pass(1);
        Due.is("19: gone", house.stale(3), 0);
        Due.is("19: of an app that keeps none", house.stale(0), 0);
    }

    // "When a cache becomes smaller, decisions that have been kept for as many minutes as it has then, or
    // longer, are gone."
    private static void cacheThatBecomesSmaller() {
        for (int age = 0; age < 60; age++) {
            for (int cache = 0; cache < 60; cache++) {
                SignOnHouse house = Houses.welcoming();
                house.setCache(0, 60);
                house.setCache(1, 60);
                house.decide(0, 0, 0);
                house.decide(1, 0, 0);
                pass(house, age);
                house.setRole(0, 0, 0);
                Due.is("16: the minutes before", house.setCache(0, cache), 60);
                Due.is("Terms: age " + age + ", then the cache " + cache, house.stale(0), age < cache ? 1 : 0);
                Due.is("Terms: another app's", house.stale(1), 1);
            }
        }
    }

    // "It keeps each decision .. for as many minutes as its cache is allowed": a larger one is longer.
    private static void cacheThatBecomesLarger() {
        for (int cache = 11; cache <= 60; cache++) {
            SignOnHouse house = Houses.welcoming();
            house.decide(0, 0, 0);
            house.pass(9);
            house.setRole(0, 0, 0);
            house.setCache(0, cache);
            pass(house, cache - 10);
            Due.is("Terms: kept for a minute less than " + cache, house.stale(0), 1);
            house.pass(1);
            Due.is("Terms: kept for as many", house.stale(0), 0);
        }
    }

    // "it is gone": a cache that becomes larger afterwards brings nothing back.
    private static void whatIsGoneStaysGone() {
        SignOnHouse old = Houses.welcoming();
        old.decide(0, 0, 0);
        old.pass(10);
        old.setCache(0, 60);
        Due.is("Terms: gone by its minutes", old.forget(0, 0), 0);
        SignOnHouse cut = Houses.welcoming();
        cut.setCache(0, 60);
        cut.decide(0, 0, 0);
        cut.pass(5);
        cut.setCache(0, 5);
        cut.setCache(0, 60);
        Due.is("Terms: gone by a smaller cache", cut.forget(0, 0), 0);
        SignOnHouse never = Houses.welcoming();
        never.setCache(0, 0);
        never.decide(0, 0, 0);
        never.setCache(0, 60);
        Due.is("Terms: never kept with 0", never.forget(0, 0), 0);
        SignOnHouse same = Houses.welcoming();
        same.decide(0, 0, 0);
        same.pass(9);
        same.setCache(0, 10);
        Due.is("Terms: the same cache takes nothing", same.forget(0, 0), 1);
    }
}
