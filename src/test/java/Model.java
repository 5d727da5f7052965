import java.util.ArrayList;
import java.util.List;

/**
 * The document once more, read anew and written down sentence by sentence with no regard for speed, rows or
 * neatness of parts: what ModelTest holds the program against. It has nothing in common with the program.
 */
final class Model {
    static final int[] AT = {0, 0, 1, 1, 2, 0};
    static final int[] RATING = {1000, 1000, 1000, 1000, 200, 600};
    static final int[] RESERVE = {300, 150, 600, 1000};

    /** A consumer. */
    static final class User {
        int bus;
        int cls;
        int kilowatts;
        int factor;
        int state;
        int ticksDone;

        int first() {
            return kilowatts * factor / 10;
        }

        boolean heavy() {
            return kilowatts >= 200;
        }

        int demand() {
            return state != 1 ? 0 : ticksDone <= 20 ? first() : kilowatts;
        }
    }

    final int[] state = new int[6];
    final int[] load = new int[6];
    final long[] heat = new long[6];
    final int[] speed = new int[6];
    final int[] phase = new int[6];
    final int[] weight = new int[6];
    final int[] left = new int[6];
    final int[] tries = new int[6];
    final int[] failure = new int[6];
    final int[] off = new int[6];
    final boolean[] closed = {false, false, false, false, false, false, true, true, false};
    final boolean[] sticks = new boolean[9];
    final int[] busFrequency = new int[3];
    final int[] busPhase = new int[3];
    final int[] low = new int[3];
    final int[] calm = new int[3];
    final List<boolean[]> lives = new ArrayList<>();
    final List<User> users = new ArrayList<>();
    final List<int[]> events = new ArrayList<>();
    int[] startOrder = {0, 1, 2, 3};
    int now;
    int mode;
    boolean shoreThere;
    int shoreAt;
    boolean ordered;
    int stuck;
    int shed;
    int lastShed = Integer.MIN_VALUE;
    int parallel;
    int dark;
    int ladder;
    int toCome;
    int blackouts;

    // ---- groups

    /** By one breaker, or by way of the third bus. */
    boolean together(int a, int b) {
        int third = 3 - a - b;
        return a == b || joined(a, b) || joined(a, third) && joined(third, b);
    }

    private boolean joined(int a, int b) {
        return closed[a + b == 1 ? 6 : a + b == 2 ? 7 : 8];
    }

    int lead(int bus) {
        return together(bus, 0) ? 0 : together(bus, 1) ? 1 : 2;
    }

    boolean running(int set) {
        return state[set] == 3 || state[set] == 4;
    }

    List<Integer> setsOf(int bus) {
        List<Integer> found = new ArrayList<>();
        for (int s = 0; s < 6; s++) {
            if (running(s) && together(AT[s], bus)) {
                found.add(s);
            }
        }
        return found;
    }

    boolean live(int bus) {
        return !setsOf(bus).isEmpty();
    }

    int demand(int bus) {
        int sum = 0;
        for (User u : users) {
            sum += together(u.bus, bus) ? u.demand() : 0;
        }
        return sum;
    }

    int capacity(int bus) {
        int sum = 0;
        for (int s : setsOf(bus)) {
            sum += RATING[s];
        }
        return sum;
    }

    private void darkBusesHaveNothing() {
        for (int b = 0; b < 3; b++) {
            if (!live(b)) {
                busFrequency[b] = 0;
                busPhase[b] = 0;
            }
        }
    }

    private void allOfGroup(int bus, int frequency, int phaseNow) {
        for (int b = 0; b < 3; b++) {
            if (together(b, bus)) {
                busFrequency[b] = frequency;
                busPhase[b] = phaseNow;
            }
        }
    }

    // ---- what happens to one thing

    private void event(int what, int whose) {
        events.add(new int[] {now, what, whose});
    }

    private boolean move(int breaker, boolean to) {
        if (sticks[breaker]) {
            stuck++;
            return false;
        }
        closed[breaker] = to;
        if (breaker >= 6) {
            event(to ? 10 : 11, breaker);
        }
        return true;
    }

    private void starts(int set) {
        state[set] = 1;
        left[set] = 30;
        event(5, set);
    }

    private boolean leaves(int set, int newState, int ticksLeft) {
        if (!move(set, false)) {
            return false;
        }
        gone(set);
        state[set] = newState;
        left[set] = ticksLeft;
        event(newState == 5 ? 3 : 4, set);
        return true;
    }

    private void gone(int set) {
        load[set] = 0;
        heat[set] = 0;
        weight[set] = 0;
        off[set] = 0;
    }

    private void comesOn(int set) {
        boolean was = live(AT[set]);
        if (!move(set, true)) {
            return;
        }
        state[set] = 3;
        weight[set] = 1000;
        heat[set] = 0;
        load[set] = 0;
        event(2, set);
        if (!was) {
            allOfGroup(AT[set], speed[set], phase[set]);
        }
    }

    private static int towards(int from, int to, int most) {
        if (to > from) {
            return to - from > most ? from + most : to;
        }
        return from - to > most ? from - most : to;
    }

    private static boolean inStep(int speed, int phase, int otherSpeed, int otherPhase) {
        int one = Math.floorMod(phase - otherPhase, 180000);
        int other = Math.floorMod(otherPhase - phase, 180000);
        return Math.abs(speed - otherSpeed) <= 150 && Math.min(one, other) <= 5000;
    }

    // ---- a tick

    int tick() {
        now++;
        for (User u : users) {
            if (u.state == 1) {
                u.ticksDone++;
            }
        }
        step1();
        step2();
        step3();
        step4();
        step5();
        step6();
        step7();
        step8();
        if (now % 20 == 0) {
            step9();
        }
        step10();
        step11();
        darkBusesHaveNothing();
        return bits();
    }

    private void step1() {
        for (int s = 0; s < 6; s++) {
            switch (state[s]) {
                case 1:
                    left[s]--;
                    if (left[s] == 0) {
                        startEnds(s);
                    }
                    break;
                case 5:
                    left[s]--;
                    if (left[s] == 0) {
                        state[s] = 0;
                    }
                    break;
                case 2:
                    idles(s);
                    break;
                default:
                    break;
            }
        }
    }

    private void startEnds(int s) {
        if (failure[s] == 1) {
            tries[s]++;
            if (tries[s] == 3) {
                state[s] = 6;
                event(4, s);
            } else {
                left[s] = 30;
            }
        } else {
            state[s] = 2;
            speed[s] = 59000;
            phase[s] = 0;
            tries[s] = 0;
            event(1, s);
        }
    }

    private void idles(int s) {
        if (s == 5) {
            speed[s] = shoreAt;
        } else {
            int to = s != 4 && live(AT[s]) ? busFrequency[AT[s]] + 100 : 60000;
            speed[s] = towards(speed[s], to, 20);
        }
        phase[s] = (phase[s] + 9 * speed[s]) % 180000;
    }

    private void step2() {
        for (int s = 0; s < 6; s++) {
            if (state[s] != 2 || failure[s] == 4) {
                continue;
            }
            if (s == 4) {
                emergencyCloses();
            } else if (!live(AT[s]) || inStep(speed[s], phase[s], busFrequency[AT[s]], busPhase[AT[s]])) {
                comesOn(s);
            }
        }
        if (ordered && !closed[6]) {
            tieCloses();
        }
    }

    private void emergencyCloses() {
        if (live(2)) {
            return;
        }
        for (int feeder = 7; feeder <= 8; feeder++) {
            if (closed[feeder] && !move(feeder, false)) {
                return;
            }
        }
        comesOn(4);
    }

    private void tieCloses() {
        boolean live0 = live(0);
        boolean live1 = live(1);
        boolean step = inStep(busFrequency[0], busPhase[0], busFrequency[1], busPhase[1]);
        if (together(0, 1) || !(live0 && live1) || step) {
            int from = live0 ? 0 : 1;
            int frequency = busFrequency[from];
            int phaseNow = busPhase[from];
            if (move(6, true)) {
                ordered = false;
                if (live0 || live1) {
                    allOfGroup(0, frequency, phaseNow);
                }
            }
        }
    }

    private void step3() {
        boolean live0 = live(0);
        boolean live1 = live(1);
        lives.add(new boolean[] {live0, live1});
        if (state[4] == 3) {
            if (liveForHundred(0) || liveForHundred(1)) {
                leaves(4, 5, 100);
            }
        } else if (closed[7] && !live0 && live1) {
            if (move(7, false) && move(8, true)) {
                allOfGroup(1, busFrequency[1], busPhase[1]);
            }
        } else if (closed[8] && !live1 && live0) {
            if (move(8, false) && move(7, true)) {
                allOfGroup(0, busFrequency[0], busPhase[0]);
            }
        } else if (!closed[7] && !closed[8]) {
            if (live0) {
                if (move(7, true)) {
                    allOfGroup(0, busFrequency[0], busPhase[0]);
                }
            } else if (live1 && move(8, true)) {
                allOfGroup(1, busFrequency[1], busPhase[1]);
            }
        }
    }

    private boolean liveForHundred(int bus) {
        if (lives.size() < 100) {
            return false;
        }
        for (int i = 1; i <= 100; i++) {
            if (!lives.get(lives.size() - i)[bus]) {
                return false;
            }
        }
        return true;
    }

    private void step4() {
        for (int b = 0; b < 3; b++) {
            if (lead(b) != b || !live(b)) {
                continue;
            }
            int target = 60600 - 1200 * demand(b) / capacity(b);
            if (target < 55000) {
                target = 55000;
            }
            if (setsOf(b).contains(5)) {
                target = shoreAt;
            }
            int frequency = towards(busFrequency[b], target, 40);
            allOfGroup(b, frequency, (busPhase[b] + 9 * frequency) % 180000);
        }
    }

    private int one(int s) {
        int by = RATING[s] * weight[s] / 1000;
        return failure[s] == 2 ? 2 * by : failure[s] == 3 ? by / 4 : by;
    }

    private void step5() {
        for (int b = 0; b < 3; b++) {
            if (lead(b) != b) {
                continue;
            }
            List<Integer> sets = setsOf(b);
            int all = 0;
            for (int s : sets) {
                all += one(s);
            }
            int rest = demand(b);
            for (int s : sets) {
                load[s] = all == 0 ? 0 : (int) ((long) demand(b) * one(s) / all);
                rest -= load[s];
            }
            while (all != 0 && rest > 0) {
                for (int s : sets) {
                    if (rest > 0) {
                        load[s]++;
                        rest--;
                    }
                }
            }
        }
    }

    private void step6() {
        for (int s = 0; s < 6; s++) {
            if (!running(s)) {
                continue;
            }
            heat[s] = load[s] > RATING[s] ? heat[s] + load[s] - RATING[s] : Math.max(0, heat[s] - 20);
            if (heat[s] >= 20000) {
                leaves(s, 5, 200);
            } else if (s != 5) {
                watch(s);
            }
        }
        for (int b = 0; b < 3; b++) {
            if (lead(b) != b) {
                continue;
            }
            low[b] = live(b) && busFrequency[b] < 57000 ? low[b] + 1 : 0;
            if (low[b] >= 20) {
                for (int s : setsOf(b)) {
                    leaves(s, 5, 200);
                }
            }
        }
    }

    private void watch(int s) {
        int sum = 0;
        int others = 0;
        for (int o = 0; o < 6; o++) {
            if (state[o] == 3 && together(AT[o], AT[s])) {
                sum += RATING[o];
                others += o == s ? 0 : 1;
            }
        }
        boolean isOff = false;
        if (state[s] == 3 && others >= 2) {
            int due = (int) ((long) demand(AT[s]) * RATING[s] / sum);
            isOff = Math.abs(load[s] - due) > RATING[s] / 8;
        }
        off[s] = isOff ? off[s] + 1 : 0;
        if (off[s] >= 100) {
            leaves(s, 6, 0);
        }
    }

    private void step7() {
        for (int b = 0; b < 3; b++) {
            if (lead(b) != b || !live(b)) {
                continue;
            }
            boolean hot = false;
            for (int s : setsOf(b)) {
                hot |= heat[s] >= 5000;
            }
            boolean due = hot || busFrequency[b] < 58500;
            if (!due || lastShed != Integer.MIN_VALUE && now - lastShed < 20) {
                continue;
            }
            for (int cls = 0; cls < 5; cls++) {
                if (shedClass(b, cls)) {
                    lastShed = now;
                    break;
                }
            }
        }
    }

    private boolean shedClass(int bus, int cls) {
        boolean any = false;
        for (int c = 0; c < users.size(); c++) {
            User u = users.get(c);
            if (u.state == 1 && u.cls == cls && together(u.bus, bus)) {
                u.state = 3;
                shed++;
                event(8, c);
                any = true;
            }
        }
        return any;
    }

    private boolean canConnect(User u) {
        return live(u.bus) && (!u.heavy() || capacity(u.bus) - demand(u.bus) >= u.first());
    }

    private void step8() {
        for (int c = 0; c < users.size(); c++) {
            User u = users.get(c);
            if (u.state == 2 && canConnect(u)) {
                u.state = 1;
                u.ticksDone = 1;
                event(7, c);
            }
        }
    }

    private void step9() {
        for (int b = 0; b < 2; b++) {
            if (lead(b) != b) {
                continue;
            }
            int need = demand(b) + RESERVE[mode];
            for (User u : users) {
                need += u.state == 2 && u.heavy() && together(u.bus, b) ? u.first() : 0;
            }
            int coming = 0;
            int on = 0;
            for (int s = 0; s < 4; s++) {
                if (together(AT[s], b)) {
                    coming += state[s] >= 1 && state[s] <= 3 ? RATING[s] : 0;
                    on += state[s] == 3 ? 1 : 0;
                }
            }
            if (coming < need) {
                calm[b] = 0;
                callOne(b);
            } else {
                lookCalmly(b, coming - need, on);
            }
        }
    }

    private void callOne(int bus) {
        for (int s : startOrder) {
            if (together(AT[s], bus) && state[s] == 0 && failure[s] != 4) {
                starts(s);
                return;
            }
        }
    }

    private void lookCalmly(int bus, int spare, int on) {
        int last = -1;
        for (int s : startOrder) {
            if (together(AT[s], bus) && state[s] == 3 && failure[s] != 4) {
                last = s;
            }
        }
        if (last < 0 || spare < RATING[last] || on - 1 < 1) {
            calm[bus] = 0;
            return;
        }
        calm[bus]++;
        if (calm[bus] == 10) {
            state[last] = 4;
            event(6, last);
            calm[bus] = 0;
        }
    }

    private void step10() {
        for (int s = 0; s < 6; s++) {
            if (state[s] == 4) {
                weight[s] = weight[s] < 50 ? 0 : weight[s] - 50;
                if (weight[s] == 0) {
                    leaves(s, 5, 100);
                }
            }
        }
        List<Integer> with = new ArrayList<>();
        for (int s = 0; s < 4; s++) {
            if (state[5] == 3 && state[s] == 3 && together(AT[5], AT[s])) {
                with.add(s);
            }
        }
        parallel = with.isEmpty() ? 0 : parallel + 1;
        if (parallel == 200) {
            parallel = 0;
            for (int s : with) {
                if (failure[s] != 4) {
                    state[s] = 4;
                    event(6, s);
                }
            }
        }
    }

    private void step11() {
        dark = live(0) || live(1) || live(2) ? 0 : dark + 1;
        if (ladder == 0 && dark >= 20) {
            blackout();
        } else if (ladder == 1 && (live(0) || live(1))) {
            ladder = 2;
            toCome = 5;
            event(12, 2);
        } else if (ladder == 2 && now % 10 == 0) {
            for (User u : users) {
                if (u.state == 4 && u.cls == toCome && live(u.bus)) {
                    u.state = 2;
                }
            }
            toCome--;
            if (toCome < 0) {
                ladder = 0;
                event(12, 0);
            }
        }
    }

    private void blackout() {
        blackouts++;
        for (int c = 0; c < users.size(); c++) {
            if (users.get(c).state == 1) {
                users.get(c).state = 4;
                event(9, c);
            }
        }
        if (state[4] == 0 && failure[4] != 4) {
            starts(4);
        }
        int called = 0;
        for (int s : startOrder) {
            if (called < 2 && state[s] == 0 && failure[s] != 4) {
                starts(s);
                called++;
            }
        }
        ladder = 1;
        event(12, 1);
    }

    // ---- the calls; exceptions are told as numbers that no call answers

    static final long ARGUMENT = -1000000001L;
    static final long STATE = -1000000002L;
    static final long INDEX = -1000000003L;

    private int bits() {
        int all = 0;
        for (int b = 0; b < 9; b++) {
            all += closed[b] ? 1 << b : 0;
        }
        return all;
    }

    private static boolean among(int number, int least, int most) {
        return least <= number && number <= most;
    }

    boolean mode(int m) {
        if (among(m, 0, 3)) {
            mode = m;
            return true;
        }
        return false;
    }

    boolean order(int sets) {
        int[] told = {sets & 3, sets >> 2 & 3, sets >> 4 & 3, sets >> 6 & 3};
        for (int i = 0; i < 4; i++) {
            for (int j = 0; j < i; j++) {
                if (told[i] == told[j]) {
                    return false;
                }
            }
        }
        startOrder = told;
        return true;
    }

    long consumer(int bus, int cls, int kilowatts, int factor) {
        if (!among(bus, 0, 2) || !among(cls, 0, 5) || !among(kilowatts, 1, 800) || !among(factor, 10, 60)) {
            return ARGUMENT;
        }
        if (users.size() == 40) {
            return STATE;
        }
        User u = new User();
        u.bus = bus;
        u.cls = cls;
        u.kilowatts = kilowatts;
        u.factor = factor;
        users.add(u);
        return users.size() - 1;
    }

    long ask(int consumer, boolean on) {
        if (!among(consumer, 0, users.size() - 1)) {
            return INDEX;
        }
        User u = users.get(consumer);
        if (!on) {
            u.state = 0;
        } else if (u.state != 1 && u.state != 4) {
            if (canConnect(u)) {
                u.state = 1;
                u.ticksDone = 0;
                event(7, consumer);
            } else {
                u.state = 2;
            }
        }
        return u.state;
    }

    long ticks(int most) {
        if (!among(most, 1, 1000)) {
            return ARGUMENT;
        }
        for (int done = 1; done <= most; done++) {
            int before = bits();
            if (tick() != before) {
                return done;
            }
        }
        return most;
    }

    boolean fail(int set, int how) {
        if (!among(set, 0, 4) || !among(how, 0, 4)) {
            return false;
        }
        failure[set] = how;
        if (state[set] == 6 && how == 0) {
            state[set] = 0;
            tries[set] = 0;
        }
        return true;
    }

    boolean start(int set) {
        if (!among(set, 0, 4) || state[set] != 0) {
            return false;
        }
        starts(set);
        return true;
    }

    boolean trip(int set) {
        boolean did = among(set, 0, 5) && running(set) && leaves(set, 5, 200);
        darkBusesHaveNothing();
        return did;
    }

    boolean stick(int breaker, boolean on) {
        if (!among(breaker, 0, 8)) {
            return false;
        }
        sticks[breaker] = on;
        return true;
    }

    boolean shore(boolean there, int milliHertz) {
        if (there && !among(milliHertz, 55000, 65000)) {
            return false;
        }
        shoreThere = there;
        if (there) {
            shoreAt = milliHertz;
        } else if (running(5)) {
            closed[5] = false;
            gone(5);
            state[5] = 0;
        } else if (state[5] == 2) {
            state[5] = 0;
        }
        darkBusesHaveNothing();
        return true;
    }

    boolean takeShore() {
        if (!shoreThere || state[5] != 0) {
            return false;
        }
        state[5] = 2;
        speed[5] = shoreAt;
        phase[5] = 0;
        event(1, 5);
        return true;
    }

    boolean tie(boolean to) {
        boolean did;
        if (to) {
            did = !closed[6] && !ordered;
            ordered |= did;
        } else {
            ordered = false;
            did = closed[6] && move(6, false);
        }
        darkBusesHaveNothing();
        return did;
    }

    long bus(int bus, int what) {
        if (!among(bus, 0, 2) || !among(what, 0, 5)) {
            return INDEX;
        }
        int[] all = {busFrequency[bus], busPhase[bus], lead(bus), demand(bus), capacity(bus), live(bus) ? 1 : 0};
        return all[what];
    }

    long set(int set, int what) {
        if (!among(set, 0, 5) || !among(what, 0, 8)) {
            return INDEX;
        }
        boolean idle = state[set] == 2;
        boolean counts = state[set] == 1 || state[set] == 5;
        int[] all = {
            state[set],
            running(set) ? load[set] : 0,
            (int) Math.min(heat[set], Integer.MAX_VALUE),
            idle ? speed[set] : 0,
            idle ? phase[set] : 0,
            running(set) ? weight[set] : 0,
            counts ? left[set] : 0,
            tries[set],
            failure[set],
        };
        return all[what];
    }

    long look(int consumer, int what) {
        if (!among(consumer, 0, users.size() - 1) || !among(what, 0, 1)) {
            return INDEX;
        }
        return what == 0 ? users.get(consumer).state : users.get(consumer).demand();
    }

    long event(long k, int what) {
        if (k < 0 || k >= 32 || k >= events.size() || !among(what, 0, 2)) {
            return INDEX;
        }
        return events.get(events.size() - 1 - (int) k)[what];
    }

    long count(int what) {
        int[] all = {
            now, blackouts, ladder, users.size(), shed, events.size(), bits(), ordered ? 1 : 0, stuck,
        };
        return among(what, 0, 8) ? all[what] : -1;
    }
}
