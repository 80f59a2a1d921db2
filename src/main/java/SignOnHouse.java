import java.util.Arrays;

/**
 * A house of single sign-on: people and groups in groups, roles that groups are granted or denied,
 * sessions with idle and whole terms that a risk cuts, keys that sign overlapping, break-glass with
 * two witnesses and a term, apps that keep decisions for a while, and decisions worked out anew.
 */
public final class SignOnHouse {
    public static final int LET_IN = 0, REFUSED = 1, NO_SESSION = 2;

    private static final int PEOPLE = 10;
    private static final int GROUPS = 8;
    private static final int ROLES = 6;
    private static final int APPS = 4;

    private static final int NOTHING = 0;
    private static final int GRANTED = 1;
    private static final int DENIED = 2;

    private static final int BARRING_RISK = 3;
    private static final int LONGEST_STEP = 300;
    private static final int LONGEST_OVERLAP = 300;
    private static final int LONGEST_CACHE = 60;
    private static final int GLASS_TERM = 60;

    private final Groups groups;
    private final Sessions sessions;
    private final Keys keys;
    private final Decisions decisions;
    private final int[] risks;
    private final int[] glassEnds;
    private int minute;

    public SignOnHouse() {
        groups = new Groups();
        sessions = new Sessions();
        keys = new Keys();
        decisions = new Decisions();
        risks = new int[PEOPLE];
        glassEnds = new int[PEOPLE * ROLES];
        minute = 0;
    }

    // ---- people and groups

    public boolean setPerson(int group, int person, boolean is) throws IllegalArgumentException {
        if (isOutside(group, GROUPS) || isOutside(person, PEOPLE)) {
            throw new IllegalArgumentException("group or person is out of range");
        }
        return groups.placePerson(group, person, is);
    }

    public boolean setGroup(int group, int inner, boolean is)
            throws IllegalArgumentException, IllegalStateException {
        if (isOutside(group, GROUPS) || isOutside(inner, GROUPS)) {
            throw new IllegalArgumentException("group or inner is out of range");
        }
        if (group == inner) {
            throw new IllegalArgumentException("group and inner are the same");
        }
        if (is && groups.isAround(inner, group)) {
            throw new IllegalStateException("a group would be in itself");
        }
        return groups.placeGroup(group, inner, is);
    }

    public int setRole(int group, int role, int what) throws IllegalArgumentException {
        if (isOutside(group, GROUPS) || isOutside(role, ROLES)) {
            throw new IllegalArgumentException("group or role is out of range");
        }
        if (what < NOTHING || what > DENIED) {
            throw new IllegalArgumentException("what is out of range");
        }
        return groups.giveRole(group, role, what);
    }

    public int setRisk(int person, int risk) throws IllegalArgumentException {
        if (isOutside(person, PEOPLE) || risk < 0 || risk > BARRING_RISK) {
            throw new IllegalArgumentException("person or risk is out of range");
        }
        boolean greater = risk > risks[person];
        risks[person] = risk;
        return greater ? sessions.endAllOf(person) : 0;
    }

    public boolean isIn(int group, int person) throws IllegalArgumentException {
        if (isOutside(group, GROUPS) || isOutside(person, PEOPLE)) {
            throw new IllegalArgumentException("group or person is out of range");
        }
        return groups.hasPerson(group, person);
    }

    public boolean allows(int person, int role) throws IllegalArgumentException {
        if (isOutside(person, PEOPLE) || isOutside(role, ROLES)) {
            throw new IllegalArgumentException("person or role is out of range");
        }
        return answerOfHouse(person, role) == LET_IN;
    }

    // ---- sessions and keys

    public int open(int person) throws IllegalArgumentException, IllegalStateException {
        if (isOutside(person, PEOPLE)) {
            throw new IllegalArgumentException("person is out of range");
        }
        if (isBarred(person)) {
            throw new IllegalStateException("the account is barred");
        }
        if (sessions.areAllOpened()) {
            throw new IllegalStateException("no more sessions can be opened");
        }
        return sessions.add(person, keys.signing(), minute);
    }

    public int close(int session) throws IndexOutOfBoundsException, IllegalStateException {
        if (!sessions.has(session)) {
            throw new IndexOutOfBoundsException("there is no such session");
        }
        if (sessions.isOver(session)) {
            throw new IllegalStateException("the session is over");
        }
        sessions.end(session);
        return sessions.age(session, minute);
    }

    public boolean goesOn(int session) throws IndexOutOfBoundsException {
        if (!sessions.has(session)) {
            throw new IndexOutOfBoundsException("there is no such session");
        }
        return !sessions.isOver(session);
    }

    public int changeKeys(int minutes) throws IllegalArgumentException {
        if (minutes < 0 || minutes > LONGEST_OVERLAP) {
            throw new IllegalArgumentException("minutes is out of range");
        }
        keys.signWithNext(minute + minutes);
        sessions.endDue(minute, risks, keys);
        return keys.signing();
    }

    public boolean isTaken(int key) throws IllegalArgumentException {
        if (key < 0 || key > keys.signing()) {
            throw new IllegalArgumentException("there is no such key");
        }
        return keys.takes(key, minute);
    }

    public int pass(int minutes) throws IllegalArgumentException {
        if (minutes < 1 || minutes > LONGEST_STEP) {
            throw new IllegalArgumentException("minutes is out of range");
        }
        minute += minutes;
        decisions.dropDueOfAll(minute);
        return sessions.endDue(minute, risks, keys);
    }

    public int now() {
        return minute;
    }

    // ---- break-glass

    public int breakGlass(int person, int role, int one, int other)
            throws IllegalArgumentException, IllegalStateException {
        if (isOutside(person, PEOPLE) || isOutside(role, ROLES)) {
            throw new IllegalArgumentException("person or role is out of range");
        }
        if (isOutside(one, PEOPLE) || isOutside(other, PEOPLE)) {
            throw new IllegalArgumentException("a witness is out of range");
        }
        if (person == one || person == other || one == other) {
            throw new IllegalArgumentException("two of the three people are the same");
        }
        if (!servesAsWitness(one, role) || !servesAsWitness(other, role)) {
            throw new IllegalStateException("a witness does not serve");
        }
        int end = minute + GLASS_TERM;
        glassEnds[person * ROLES + role] = end;
        return end;
    }

    // ---- apps

    public int setCache(int app, int minutes) throws IllegalArgumentException {
        if (isOutside(app, APPS) || minutes < 0 || minutes > LONGEST_CACHE) {
            throw new IllegalArgumentException("app or minutes is out of range");
        }
        int before = decisions.cacheOf(app);
        decisions.allowCache(app, minutes);
        decisions.dropDue(app, minute);
        return before;
    }

    public int decide(int app, int session, int role)
            throws IllegalArgumentException, IndexOutOfBoundsException {
        if (isOutside(app, APPS) || isOutside(role, ROLES)) {
            throw new IllegalArgumentException("app or role is out of range");
        }
        if (!sessions.has(session)) {
            throw new IndexOutOfBoundsException("there is no such session");
        }
        if (sessions.isOver(session)) {
            return NO_SESSION;
        }
        sessions.use(session, minute);
        return answerOfApp(app, sessions.personOf(session), role);
    }

    public int forget(int app, int person) throws IllegalArgumentException {
        if (isOutside(app, APPS) || isOutside(person, PEOPLE)) {
            throw new IllegalArgumentException("app or person is out of range");
        }
        return decisions.dropAllOf(app, person);
    }

    public int stale(int app) throws IllegalArgumentException {
        if (isOutside(app, APPS)) {
            throw new IllegalArgumentException("app is out of range");
        }
        int count = 0;
        for (int person = 0; person < PEOPLE; person++) {
            for (int role = 0; role < ROLES; role++) {
                if (isStale(app, person, role)) {
                    count++;
                }
            }
        }
        return count;
    }

    // ---- what the calls above share

    private static boolean isOutside(int number, int count) {
        return number < 0 || number >= count;
    }

    private boolean isBarred(int person) {
        return risks[person] == BARRING_RISK;
    }

    private boolean holdsGlass(int person, int role) {
        return minute < glassEnds[person * ROLES + role];
    }

    private boolean servesAsWitness(int person, int role) {
        // A role that is denied elsewhere does not hinder: a witness needs a grant in some group, no more.
        return !isBarred(person) && groups.anyGrants(person, role);
    }

    private int answerOfHouse(int person, int role) {
        if (isBarred(person)) {
            return REFUSED;
        }
        boolean byGroups = groups.anyGrants(person, role) && !groups.anyDenies(person, role);
        return byGroups || holdsGlass(person, role) ? LET_IN : REFUSED;
    }

    private int answerOfApp(int app, int person, int role) {
        if (decisions.areKept(app, person, role)) {
            return decisions.answer(app, person, role);
        }
        int answer = answerOfHouse(person, role);
        decisions.keep(app, person, role, answer, minute);
        return answer;
    }

    private boolean isStale(int app, int person, int role) {
        return decisions.areKept(app, person, role)
                && decisions.answer(app, person, role) != answerOfHouse(person, role);
    }

    /** Who is in which group, and what the groups have for the roles. A set of groups is a mask of bits. */
    private static final class Groups {
        private final int[] homesOfPerson;
        private final int[] homesOfGroup;
        private final int[] grantedOfRole;
        private final int[] deniedOfRole;

        Groups() {
            homesOfPerson = new int[PEOPLE];
            homesOfGroup = new int[GROUPS];
            grantedOfRole = new int[ROLES];
            deniedOfRole = new int[ROLES];
        }

        boolean placePerson(int group, int person, boolean is) {
            boolean before = contains(homesOfPerson[person], group);
            homesOfPerson[person] = changed(homesOfPerson[person], group, is);
            return before;
        }

        boolean placeGroup(int group, int inner, boolean is) {
            boolean before = contains(homesOfGroup[inner], group);
            homesOfGroup[inner] = changed(homesOfGroup[inner], group, is);
            return before;
        }

        int giveRole(int group, int role, int what) {
            int before = roleOf(group, role);
            grantedOfRole[role] = changed(grantedOfRole[role], group, what == GRANTED);
            deniedOfRole[role] = changed(deniedOfRole[role], group, what == DENIED);
            return before;
        }

        boolean hasPerson(int group, int person) {
            return contains(allAround(homesOfPerson[person]), group);
        }

        boolean isAround(int outer, int group) {
            return contains(allAround(homesOfGroup[group]), outer);
        }

        boolean anyGrants(int person, int role) {
            return (allAround(homesOfPerson[person]) & grantedOfRole[role]) != 0;
        }

        boolean anyDenies(int person, int role) {
            return (allAround(homesOfPerson[person]) & deniedOfRole[role]) != 0;
        }

        private int roleOf(int group, int role) {
            if (contains(grantedOfRole[role], group)) {
                return GRANTED;
            }
            return contains(deniedOfRole[role], group) ? DENIED : NOTHING;
        }

        /** The groups of a set and all groups that one of them is in, directly or over others. */
        private int allAround(int set) {
            int all = set;
            // No group is in itself, so the longest chain has a link less than there are groups.
            for (int link = 1; link < GROUPS; link++) {
                all = oneLinkFurther(all);
            }
            return all;
        }

        private int oneLinkFurther(int set) {
            int further = set;
            for (int group = 0; group < GROUPS; group++) {
                if (contains(set, group)) {
                    further |= homesOfGroup[group];
                }
            }
            return further;
        }

        private static boolean contains(int set, int group) {
            return (set >> group & 1) == 1;
        }

        private static int changed(int set, int group, boolean is) {
            return is ? set | 1 << group : set & ~(1 << group);
        }
    }

    /** The key that signs, and until when the one before it is taken. */
    private static final class Keys {
        private int signing;
        private int endOfBefore;

        Keys() {
            signing = 0;
            endOfBefore = 0;
        }

        int signing() {
            return signing;
        }

        void signWithNext(int end) {
            signing++;
            endOfBefore = end;
        }

        boolean takes(int key, int minute) {
            return key == signing || key == signing - 1 && minute < endOfBefore;
        }
    }

    /**
     * The sessions that were opened. One that is over is marked at once when the minutes, the keys or a
     * risk end it: a risk that becomes smaller later must not bring it back.
     */
    private static final class Sessions {
        private static final int MOST = 30;
        private static final int IDLE_TERM = 30;
        private static final int WHOLE_TERM = 240;
        private static final int CUT_BY_RISK = 60;

        private final int[] people;
        private final int[] signedWith;
        private final int[] openedAt;
        private final int[] usedAt;
        private final boolean[] over;
        private int count;

        Sessions() {
            people = new int[MOST];
            signedWith = new int[MOST];
            openedAt = new int[MOST];
            usedAt = new int[MOST];
            over = new boolean[MOST];
            count = 0;
        }

        boolean areAllOpened() {
            return count >= MOST;
        }

        boolean has(int session) {
            return session >= 0 && session < count;
        }

        int add(int person, int key, int minute) {
            int session = count;
            people[session] = person;
            signedWith[session] = key;
            openedAt[session] = minute;
            usedAt[session] = minute;
            count++;
            return session;
        }

        boolean isOver(int session) {
            return over[session];
        }

        void end(int session) {
            over[session] = true;
        }

        void use(int session, int minute) {
            usedAt[session] = minute;
        }

        int personOf(int session) {
            return people[session];
        }

        int age(int session, int minute) {
            return minute - openedAt[session];
        }

        int endAllOf(int person) {
            int ended = 0;
            for (int session = 0; session < count; session++) {
                if (!over[session] && people[session] == person) {
                    end(session);
                    ended++;
                }
            }
            return ended;
        }

        int endDue(int minute, int[] risks, Keys keys) {
            int ended = 0;
            for (int session = 0; session < count; session++) {
                if (!over[session] && isDue(session, minute, risks[people[session]], keys)) {
                    end(session);
                    ended++;
                }
            }
            return ended;
        }

        private boolean isDue(int session, int minute, int risk, Keys keys) {
            return minute - usedAt[session] >= IDLE_TERM
                    || age(session, minute) >= WHOLE_TERM - CUT_BY_RISK * risk
                    || !keys.takes(signedWith[session], minute);
        }
    }

    /**
     * What the apps keep. A decision whose minutes have passed is dropped at once: a cache that becomes
     * larger later must not bring it back.
     */
    private static final class Decisions {
        private static final int FIRST_CACHE = 10;
        private static final int PLACES_OF_APP = PEOPLE * ROLES;
        private static final int NONE = -1;

        private final int[] caches;
        private final int[] answers;
        private final int[] keptSince;

        Decisions() {
            caches = new int[APPS];
            answers = new int[APPS * PLACES_OF_APP];
            keptSince = new int[APPS * PLACES_OF_APP];
            Arrays.fill(caches, FIRST_CACHE);
            Arrays.fill(answers, NONE);
        }

        int cacheOf(int app) {
            return caches[app];
        }

        void allowCache(int app, int minutes) {
            caches[app] = minutes;
        }

        boolean areKept(int app, int person, int role) {
            return answers[place(app, person, role)] != NONE;
        }

        int answer(int app, int person, int role) {
            return answers[place(app, person, role)];
        }

        void keep(int app, int person, int role, int answer, int minute) {
            // With no minutes allowed a decision is gone at once, even if a larger cache comes in the same minute.
            if (caches[app] == 0) {
                return;
            }
            answers[place(app, person, role)] = answer;
            keptSince[place(app, person, role)] = minute;
        }

        int dropAllOf(int app, int person) {
            int dropped = 0;
            for (int role = 0; role < ROLES; role++) {
                if (areKept(app, person, role)) {
                    answers[place(app, person, role)] = NONE;
                    dropped++;
                }
            }
            return dropped;
        }

        void dropDueOfAll(int minute) {
            for (int app = 0; app < APPS; app++) {
                dropDue(app, minute);
            }
        }

        void dropDue(int app, int minute) {
            int first = place(app, 0, 0);
            for (int place = first; place < first + PLACES_OF_APP; place++) {
                if (minute - keptSince[place] >= caches[app]) {
                    answers[place] = NONE;
                }
            }
        }

        private static int place(int app, int person, int role) {
            return app * PLACES_OF_APP + person * ROLES + role;
        }
    }
}
