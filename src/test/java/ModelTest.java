import java.util.ArrayList;
import java.util.List;
import java.util.Random;
import java.util.function.IntSupplier;

/**
 * Long runs of calls, good and wrong ones mixed, on a house and on a model of it, answer for answer.
 * The model works otherwise than the program: it goes minute by minute, asks the groups by recursion
 * and keeps objects.
 */
public final class ModelTest {
    private static final int RUNS = 3000;
    private static final int MOST_CALLS = 512;

    public static void main(String[] args) {
        for (int run = 0; run < RUNS; run++) {
            new Run(run).go();
        }
        Due.end();
    }

    private static final class Run {
        private final int number;
        private final Random random;
        private final SignOnHouse house = new SignOnHouse();
        private final Model model = new Model();
        // Few groups, people and steps in some runs, so that things meet; all of them in others.
        private final int groups;
        private final int people;
        private final int roles;
        private final int apps;
        private final int longest;

        Run(int number) {
            this.number = number;
            random = new Random(number);
            groups = 2 + random.nextInt(7);
            people = 3 + random.nextInt(8);
            roles = 1 + random.nextInt(6);
            apps = 1 + random.nextInt(4);
            longest = random.nextInt(8) == 0 ? 300 : 1 + random.nextInt(31);
        }

        void go() {
            for (int call = 0; call < MOST_CALLS; call++) {
                step(call);
            }
        }

        private int pick(int count, int range) {
            int die = random.nextInt(60);
            return die == 0 ? -1 : die == 1 ? range : random.nextInt(count);
        }

        private int group() {
            return pick(groups, 8);
        }

        private int person() {
            return pick(people, 10);
        }

        private int role() {
            return pick(roles, 6);
        }

        private int app() {
            return pick(apps, 4);
        }

        private int session() {
            int opened = model.sessions.size();
            return random.nextInt(3) == 0 || opened == 0
                    ? pick(opened + 1, opened) : opened - 1 - random.nextInt(Math.min(opened, 4));
        }

        private int key() {
            return Math.max(-1, model.key + 1 - random.nextInt(5));
        }

        private void step(int call) {
            int a;
            int b;
            int c;
            int d;
            boolean is = random.nextInt(3) != 0;
            String name = "run " + number + ", call " + call + ": ";
            switch (random.nextInt(26)) {
                case 0:
                    a = group(); b = person();
                    same(name + "setPerson", () -> house.setPerson(a, b, is) ? 1 : 0, () -> model.setPerson(a, b, is));
                    break;
                case 1: case 2:
                    a = group(); b = group();
                    same(name + "setGroup", () -> house.setGroup(a, b, is) ? 1 : 0, () -> model.setGroup(a, b, is));
                    break;
                case 3: case 4:
                    a = group(); b = role(); c = random.nextInt(20) == 0 ? 3 : random.nextInt(4) % 3;
                    same(name + "setRole", () -> house.setRole(a, b, c), () -> model.setRole(a, b, c));
                    break;
                case 5:
                    a = person(); b = pick(4, 4);
                    same(name + "setRisk", () -> house.setRisk(a, b), () -> model.setRisk(a, b));
                    break;
                case 6:
                    a = group(); b = person();
                    same(name + "isIn", () -> house.isIn(a, b) ? 1 : 0, () -> model.isIn(a, b));
                    break;
                case 7: case 8:
                    a = person(); b = role();
                    same(name + "allows", () -> house.allows(a, b) ? 1 : 0, () -> model.allows(a, b));
                    break;
                case 9:
                    a = person();
                    same(name + "open", () -> house.open(a), () -> model.open(a));
                    break;
                case 10:
                    a = session();
                    if (random.nextInt(3) == 0) {
                        same(name + "close", () -> house.close(a), () -> model.close(a));
                    }
                    break;
                case 11:
                    a = session();
                    same(name + "goesOn", () -> house.goesOn(a) ? 1 : 0, () -> model.goesOn(a));
                    break;
                case 12:
                    a = random.nextInt(3) == 0 ? pick(301, 301) : pick(40, 301);
                    if (random.nextInt(4) == 0) {
                        same(name + "changeKeys", () -> house.changeKeys(a), () -> model.changeKeys(a));
                    }
                    break;
                case 13:
                    a = key();
                    same(name + "isTaken", () -> house.isTaken(a) ? 1 : 0, () -> model.isTaken(a));
                    break;
                case 14: case 15:
                    a = random.nextInt(30) == 0 ? random.nextInt(2) * 301 : 1 + random.nextInt(longest);
                    same(name + "pass", () -> house.pass(a), () -> model.pass(a));
                    break;
                case 16:
                    same(name + "now", house::now, () -> model.minute);
                    break;
                case 17:
                    a = person(); b = role(); c = person(); d = person();
                    same(name + "breakGlass", () -> house.breakGlass(a, b, c, d), () -> model.breakGlass(a, b, c, d));
                    break;
                case 18:
                    a = app(); b = random.nextInt(3) == 0 ? random.nextInt(3) : pick(61, 61);
                    same(name + "setCache", () -> house.setCache(a, b), () -> model.setCache(a, b));
                    break;
                case 19: case 20: case 21: case 22:
                    a = app(); b = session(); c = role();
                    same(name + "decide", () -> house.decide(a, b, c), () -> model.decide(a, b, c));
                    break;
                case 23:
                    a = app(); b = person();
                    same(name + "forget", () -> house.forget(a, b), () -> model.forget(a, b));
                    break;
                default:
                    a = app();
                    same(name + "stale", () -> house.stale(a), () -> model.stale(a));
                    break;
            }
        }

        private static void same(String name, IntSupplier got, IntSupplier want) {
            Due.same(name, Due.answer(got), Due.answer(want));
        }
    }

    /** A session of the model. */
    private static final class Session {
        int person;
        int key;
        int opened;
        int idle;
        boolean over;
    }

    /** A decision that an app of the model keeps. */
    private static final class Decision {
        int app;
        int person;
        int role;
        int answer;
        int age;
    }

    private static final class Model {
        final boolean[][] people = new boolean[8][10];
        final boolean[][] inner = new boolean[8][8];
        final int[][] what = new int[8][6];
        final int[] risk = new int[10];
        final int[][] glassLeft = new int[10][6];
        final int[] cache = {10, 10, 10, 10};
        final List<Session> sessions = new ArrayList<>();
        final List<Decision> decisions = new ArrayList<>();
        int key = 0;
        int keyBefore = -1;
        int leftOfKeyBefore = 0;
        int minute = 0;

        private static void argument(boolean good) {
            if (!good) {
                throw new IllegalArgumentException();
            }
        }

        private static void state(boolean good) {
            if (!good) {
                throw new IllegalStateException();
            }
        }

        private static boolean within(int number, int first, int last) {
            return first <= number && number <= last;
        }

        private Session session(int number) {
            if (!within(number, 0, sessions.size() - 1)) {
                throw new IndexOutOfBoundsException();
            }
            return sessions.get(number);
        }

        int setPerson(int group, int person, boolean is) {
            argument(within(group, 0, 7) && within(person, 0, 9));
            int before = people[group][person] ? 1 : 0;
            people[group][person] = is;
            return before;
        }

        private boolean leadsTo(int outer, int wanted) {
            for (int group = 0; group < 8; group++) {
                if (inner[outer][group] && (group == wanted || leadsTo(group, wanted))) {
                    return true;
                }
            }
            return false;
        }

        int setGroup(int group, int other, boolean is) {
            argument(within(group, 0, 7) && within(other, 0, 7) && group != other);
            state(!is || !leadsTo(other, group));
            int before = inner[group][other] ? 1 : 0;
            inner[group][other] = is;
            return before;
        }

        int setRole(int group, int role, int to) {
            argument(within(group, 0, 7) && within(role, 0, 5) && within(to, 0, 2));
            int before = what[group][role];
            what[group][role] = to;
            return before;
        }

        int setRisk(int person, int to) {
            argument(within(person, 0, 9) && within(to, 0, 3));
            int ended = 0;
            for (Session session : sessions) {
                if (session.person == person && !session.over && to > risk[person]) {
                    session.over = true;
                    ended++;
                }
            }
            risk[person] = to;
            return ended;
        }

        private boolean has(int group, int person) {
            boolean found = people[group][person];
            for (int other = 0; other < 8; other++) {
                found |= inner[group][other] && has(other, person);
            }
            return found;
        }

        int isIn(int group, int person) {
            argument(within(group, 0, 7) && within(person, 0, 9));
            return has(group, person) ? 1 : 0;
        }

        private boolean isInOneWith(int person, int role, int wanted) {
            for (int group = 0; group < 8; group++) {
                if (what[group][role] == wanted && has(group, person)) {
                    return true;
                }
            }
            return false;
        }

        int allows(int person, int role) {
            argument(within(person, 0, 9) && within(role, 0, 5));
            boolean by = isInOneWith(person, role, 1) && !isInOneWith(person, role, 2);
            return risk[person] < 3 && (by || glassLeft[person][role] > 0) ? 1 : 0;
        }

        int open(int person) {
            argument(within(person, 0, 9));
            state(risk[person] < 3 && sessions.size() < 30);
            Session session = new Session();
            session.person = person;
            session.key = key;
            session.opened = minute;
            sessions.add(session);
            return sessions.size() - 1;
        }

        int close(int number) {
            Session session = session(number);
            state(!session.over);
            session.over = true;
            return minute - session.opened;
        }

        int goesOn(int number) {
            return session(number).over ? 0 : 1;
        }

        int changeKeys(int minutes) {
            argument(within(minutes, 0, 300));
            keyBefore = key;
            leftOfKeyBefore = minutes;
            key++;
            endSessions();
            return key;
        }

        private boolean takes(int number) {
            return number == key || number == keyBefore && leftOfKeyBefore > 0;
        }

        int isTaken(int number) {
            argument(within(number, 0, key));
            return takes(number) ? 1 : 0;
        }

        private int endSessions() {
            int ended = 0;
            for (Session session : sessions) {
                int term = new int[] {240, 180, 120, 60}[risk[session.person]];
                boolean due = session.idle == 30 || minute - session.opened == term || !takes(session.key);
                if (due && !session.over) {
                    session.over = true;
                    ended++;
                }
            }
            return ended;
        }

        private int passOne() {
            minute++;
            leftOfKeyBefore = Math.max(0, leftOfKeyBefore - 1);
            for (int[] left : glassLeft) {
                for (int role = 0; role < 6; role++) {
                    left[role] = Math.max(0, left[role] - 1);
                }
            }
            for (Session session : sessions) {
                session.idle++;
            }
            for (Decision decision : decisions) {
                decision.age++;
            }
            dropDecisions();
            return endSessions();
        }

        private void dropDecisions() {
            decisions.removeIf(decision -> decision.age >= cache[decision.app]);
        }

        int pass(int minutes) {
            argument(within(minutes, 1, 300));
            int ended = 0;
            for (int i = 0; i < minutes; i++) {
                ended += passOne();
            }
            return ended;
        }

        int breakGlass(int person, int role, int one, int other) {
            argument(within(person, 0, 9) && within(role, 0, 5) && within(one, 0, 9) && within(other, 0, 9));
            argument(person != one && person != other && one != other);
            state(risk[one] < 3 && isInOneWith(one, role, 1));
            state(risk[other] < 3 && isInOneWith(other, role, 1));
            glassLeft[person][role] = 60;
            return minute + 60;
        }

        int setCache(int app, int minutes) {
            argument(within(app, 0, 3) && within(minutes, 0, 60));
            int before = cache[app];
            cache[app] = minutes;
            dropDecisions();
            return before;
        }

        int decide(int app, int number, int role) {
            argument(within(app, 0, 3) && within(role, 0, 5));
            Session session = session(number);
            if (session.over) {
                return 2;
            }
            session.idle = 0;
            for (Decision decision : decisions) {
                if (decision.app == app && decision.person == session.person && decision.role == role) {
                    return decision.answer;
                }
            }
            Decision decision = new Decision();
            decision.app = app;
            decision.person = session.person;
            decision.role = role;
            decision.answer = 1 - allows(session.person, role);
            decisions.add(decision);
            dropDecisions();
            return decision.answer;
        }

        int forget(int app, int person) {
            argument(within(app, 0, 3) && within(person, 0, 9));
            int before = decisions.size();
            decisions.removeIf(decision -> decision.app == app && decision.person == person);
            return before - decisions.size();
        }

        int stale(int app) {
            argument(within(app, 0, 3));
            int count = 0;
            for (Decision decision : decisions) {
                if (decision.app == app && decision.answer == allows(decision.person, decision.role)) {
                    count++;
                }
            }
            return count;
        }
    }
}
