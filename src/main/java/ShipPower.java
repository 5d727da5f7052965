/**
 * The electric plant of a ship with its manager, tick by tick, in whole numbers.
 *
 * <p>The face only looks at its arguments; the steps of a tick are done by the classes inside, in the
 * order that {@link #advance} tells.
 */
public final class ShipPower {
    public static final int NONE = -1;

    private static final int BUSES = 3;
    private static final int ESSENTIAL_BUS = 2;

    private static final int SETS = 6;
    private static final int MAIN_SETS = 4;
    private static final int EMERGENCY_SET = 4;
    private static final int SHORE_SET = 5;
    private static final int[] BUS_OF_SET = {0, 0, 1, 1, 2, 0};
    private static final int[] RATING_OF_SET = {1000, 1000, 1000, 1000, 200, 600};

    private static final int BREAKERS = 9;
    private static final int TIE = 6;
    private static final int FEEDER_0 = 7;
    private static final int FEEDER_1 = 8;

    private static final int OFF = 0;
    private static final int STARTING = 1;
    private static final int IDLE = 2;
    private static final int ON = 3;
    private static final int UNLOADING = 4;
    private static final int COOLING = 5;
    private static final int BLOCKED = 6;
    private static final int[] EVENT_OF_STATE = {0, 5, 1, 2, 6, 3, 4};

    private static final int FAILURES = 5;
    private static final int NO_START = 1;
    private static final int GOVERNOR_HIGH = 2;
    private static final int GOVERNOR_LOW = 3;
    private static final int NODE_DEAD = 4;

    private static final int MODES = 4;
    private static final int[] RESERVE_OF_MODE = {300, 150, 600, 1000};

    private static final int MOST_CONSUMERS = 40;
    private static final int CLASSES = 6;
    private static final int ESSENTIAL_CLASS = 5;
    private static final int CONNECTED = 1;
    private static final int WAITING = 2;
    private static final int SHED = 3;
    private static final int STORED = 4;

    private static final int EVENT_CONNECTED = 7;
    private static final int EVENT_SHED = 8;
    private static final int EVENT_STORED = 9;
    private static final int EVENT_CLOSED = 10;
    private static final int EVENT_OPENED = 11;
    private static final int EVENT_LADDER = 12;
    private static final int KEPT_EVENTS = 32;

    private static final int CIRCLE = 180000;
    private static final int PHASE_PER_SPEED = 9;
    private static final int START_TICKS = 30;
    private static final int REST_TICKS = 100;
    private static final int TRIP_TICKS = 200;
    private static final int FULL_WEIGHT = 1000;
    private static final int MOST_TICKS = 1000;
    private static final long MOST_TOLD = 2147483647L;

    private final Journal journal;
    private final Board board;
    private final Plant plant;
    private final Coupling coupling;
    private final Sharing sharing;
    private final Protection protection;
    private final Manager manager;
    private final Ladder ladder;

    public ShipPower() {
        journal = new Journal();
        board = new Board(journal);
        plant = new Plant(journal, board);
        coupling = new Coupling(plant);
        sharing = new Sharing(plant);
        protection = new Protection(plant);
        manager = new Manager(plant);
        ladder = new Ladder(plant, manager);
    }

    public boolean mode(int m) {
        if (!isIndex(m, MODES)) {
            return false;
        }
        manager.reserve = RESERVE_OF_MODE[m];
        return true;
    }

    public boolean order(int sets) {
        return manager.takeOrder(sets);
    }

    public int consumer(int bus, int cls, int kilowatts, int factor)
            throws IllegalArgumentException, IllegalStateException {
        if (!isIndex(bus, BUSES) || !isIndex(cls, CLASSES)) {
            throw new IllegalArgumentException("no such bus or class");
        }
        if (kilowatts < 1 || kilowatts > 800 || factor < 10 || factor > 60) {
            throw new IllegalArgumentException("kilowatts or factor out of range");
        }
        if (plant.consumerCount >= MOST_CONSUMERS) {
            throw new IllegalStateException("no room for a consumer");
        }
        return plant.addConsumer(bus, cls, kilowatts, factor);
    }

    public int ask(int consumer, boolean on) throws IndexOutOfBoundsException {
        if (!isIndex(consumer, plant.consumerCount)) {
            throw new IndexOutOfBoundsException("no such consumer");
        }
        Consumer asked = plant.consumers[consumer];
        if (on) {
            plant.request(asked);
        } else {
            asked.state = OFF;
        }
        return asked.state;
    }

    public int tick() {
        advance();
        return board.closed;
    }

    public int ticks(int most) throws IllegalArgumentException {
        if (most < 1 || most > MOST_TICKS) {
            throw new IllegalArgumentException("not 1 to 1000 ticks");
        }
        int before = board.closed;
        int done = 0;
        while (done < most && board.closed == before) {
            advance();
            done++;
        }
        return done;
    }

    public boolean fail(int set, int how) {
        if (!isIndex(set, SHORE_SET) || !isIndex(how, FAILURES)) {
            return false;
        }
        PowerSet failing = plant.sets[set];
        failing.failure = how;
        if (how == 0 && failing.state == BLOCKED) {
            failing.state = OFF;
            failing.tries = 0;
        }
        return true;
    }

    public boolean start(int set) {
        if (!isIndex(set, SHORE_SET) || plant.sets[set].state != OFF) {
            return false;
        }
        plant.beginStart(plant.sets[set]);
        return true;
    }

    public boolean trip(int set) {
        return isIndex(set, SETS)
                && plant.sets[set].isAtBus()
                && plant.leaveBus(plant.sets[set], COOLING, TRIP_TICKS);
    }

    public boolean stick(int breaker, boolean sticks) {
        if (!isIndex(breaker, BREAKERS)) {
            return false;
        }
        board.letStick(breaker, sticks);
        return true;
    }

    public boolean shore(boolean there, int milliHertz) {
        if (there && (milliHertz < 55000 || milliHertz > 65000)) {
            return false;
        }
        plant.shoreIsThere = there;
        if (there) {
            plant.shoreFrequency = milliHertz;
        } else {
            plant.loseShore();
        }
        return true;
    }

    public boolean takeShore() {
        PowerSet shoreSet = plant.sets[SHORE_SET];
        if (!plant.shoreIsThere || shoreSet.state != OFF) {
            return false;
        }
        plant.becomeIdle(shoreSet, plant.shoreFrequency);
        return true;
    }

    public boolean tie(boolean closed) {
        return closed ? coupling.orderTie() : coupling.openTie();
    }

    public int bus(int bus, int what) throws IndexOutOfBoundsException {
        if (!isIndex(bus, BUSES) || !isIndex(what, 6)) {
            throw new IndexOutOfBoundsException("no such bus or what");
        }
        switch (what) {
            case 0:
                return plant.frequencyOf(bus);
            case 1:
                return plant.phaseOf(bus);
            case 2:
                return board.leads[bus];
            case 3:
                return plant.demandAt(bus);
            case 4:
                return plant.capacityAt(bus);
            default:
                return plant.isLive(bus) ? 1 : 0;
        }
    }

    public int set(int set, int what) throws IndexOutOfBoundsException {
        if (!isIndex(set, SETS) || !isIndex(what, 9)) {
            throw new IndexOutOfBoundsException("no such set or what");
        }
        return plant.sets[set].tell(what);
    }

    public int look(int consumer, int what) throws IndexOutOfBoundsException {
        if (!isIndex(consumer, plant.consumerCount) || !isIndex(what, 2)) {
            throw new IndexOutOfBoundsException("no such consumer or what");
        }
        Consumer seen = plant.consumers[consumer];
        return what == 0 ? seen.state : seen.demandIn(journal.now);
    }

    public int event(int k, int what) throws IndexOutOfBoundsException {
        if (!journal.keeps(k) || !isIndex(what, 3)) {
            throw new IndexOutOfBoundsException("no such event or what");
        }
        return journal.recall(k, what);
    }

    public int count(int what) {
        switch (what) {
            case 0:
                return journal.now;
            case 1:
                return ladder.blackouts;
            case 2:
                return ladder.step;
            case 3:
                return plant.consumerCount;
            case 4:
                return protection.shedSoFar;
            case 5:
                return journal.total;
            case 6:
                return board.closed;
            case 7:
                return coupling.tieOrdered ? 1 : 0;
            case 8:
                return board.refused;
            default:
                return NONE;
        }
    }

    private static boolean isIndex(int number, int size) {
        return number >= 0 && number < size;
    }

    private void advance() {
        journal.now++;
        coupling.runSets();
        coupling.closeSets();
        coupling.closeTie();
        coupling.feedEssential();
        sharing.steerGroups();
        sharing.shareLoads();
        protection.guardSets();
        protection.guardGroups();
        protection.shedLoads();
        manager.connectWaiting();
        manager.lookAtGroups();
        manager.unloadSets();
        manager.watchShore();
        ladder.climb();
    }

    /** A value that goes towards another, by a stride at most. */
    private static int approach(int value, int target, int stride) {
        return value + Math.max(-stride, Math.min(stride, target - value));
    }

    /** A phase one tick later. */
    private static int turned(int phase, int speed) {
        return (phase + PHASE_PER_SPEED * speed) % CIRCLE;
    }

    /** The number of the latest tick, and the latest events. */
    private static final class Journal {
        final int[] times = new int[KEPT_EVENTS];
        final int[] kinds = new int[KEPT_EVENTS];
        final int[] subjects = new int[KEPT_EVENTS];
        int now;
        int total;

        void note(int kind, int subject) {
            int place = total % KEPT_EVENTS;
            times[place] = now;
            kinds[place] = kind;
            subjects[place] = subject;
            total++;
        }

        boolean keeps(int k) {
            return k >= 0 && k < KEPT_EVENTS && k < total;
        }

        int recall(int k, int what) {
            int place = (total - 1 - k) % KEPT_EVENTS;
            if (what == 0) {
                return times[place];
            }
            return what == 1 ? kinds[place] : subjects[place];
        }
    }

    /** The breakers, and which buses they join. */
    private static final class Board {
        final Journal journal;
        final int[] leads = {0, 0, 0};
        int closed = 1 << TIE | 1 << FEEDER_0;
        int sticking;
        int refused;

        Board(Journal journal) {
            this.journal = journal;
        }

        boolean isClosed(int breaker) {
            return (closed & 1 << breaker) != 0;
        }

        void letStick(int breaker, boolean sticks) {
            sticking = sticks ? sticking | 1 << breaker : sticking & ~(1 << breaker);
        }

        /** Opens a closed breaker; false if it sticks. */
        boolean open(int breaker) {
            return change(breaker, EVENT_OPENED);
        }

        /** Closes an open breaker; false if it sticks. */
        boolean close(int breaker) {
            return change(breaker, EVENT_CLOSED);
        }

        private boolean change(int breaker, int kind) {
            if ((sticking & 1 << breaker) != 0) {
                refused++;
                return false;
            }
            int bit = 1 << breaker;
            closed = kind == EVENT_CLOSED ? closed | bit : closed & ~bit;
            if (breaker >= TIE) {
                findLeads();
                journal.note(kind, breaker);
            }
            return true;
        }

        private void findLeads() {
            boolean tied = (closed & 1 << TIE) != 0;
            boolean fed0 = (closed & 1 << FEEDER_0) != 0;
            boolean fed1 = (closed & 1 << FEEDER_1) != 0;
            leads[1] = tied || fed0 && fed1 ? 0 : 1;
            leads[2] = fed0 || fed1 && tied ? 0 : fed1 ? 1 : 2;
        }
    }

    /** One set: a generator or the shore. */
    private static final class PowerSet {
        final int number;
        final int bus;
        final int rating;
        int state;
        int failure;
        int speed;
        int phase;
        int load;
        // A sticking breaker lets heat grow for as long as an object is used: more than an int holds.
        long heat;
        int weight;
        int left;
        int tries;
        int offTicks;

        PowerSet(int number) {
            this.number = number;
            bus = BUS_OF_SET[number];
            rating = RATING_OF_SET[number];
        }

        boolean isAtBus() {
            return state == ON || state == UNLOADING;
        }

        boolean hasNode() {
            return failure != NODE_DEAD;
        }

        boolean isComing() {
            return state == STARTING || state == IDLE || state == ON;
        }

        int tell(int what) {
            switch (what) {
                case 0:
                    return state;
                case 1:
                    return isAtBus() ? load : 0;
                case 2:
                    return (int) Math.min(heat, MOST_TOLD);
                case 3:
                    return state == IDLE ? speed : 0;
                case 4:
                    return state == IDLE ? phase : 0;
                case 5:
                    return isAtBus() ? weight : 0;
                case 6:
                    return state == STARTING || state == COOLING ? left : 0;
                case 7:
                    return tries;
                default:
                    return failure;
            }
        }
    }

    /** One consumer. */
    private static final class Consumer {
        final int number;
        final int bus;
        final int cls;
        final int kilowatts;
        final int firstDemand;
        int state;
        int firstTick;

        Consumer(int number, int bus, int cls, int kilowatts, int factor) {
            this.number = number;
            this.bus = bus;
            this.cls = cls;
            this.kilowatts = kilowatts;
            firstDemand = kilowatts * factor / 10;
        }

        boolean isHeavy() {
            return kilowatts >= 200;
        }

        int demandIn(int tick) {
            if (state != CONNECTED) {
                return 0;
            }
            return tick - firstTick < 20 ? firstDemand : kilowatts;
        }
    }

    /** Sets, buses and consumers, and what every step asks of them or does with them. */
    private static final class Plant {
        final Journal journal;
        final Board board;
        final PowerSet[] sets = new PowerSet[SETS];
        final Consumer[] consumers = new Consumer[MOST_CONSUMERS];
        // What a bus holds counts only while its group is live: whatever makes it live writes both anew.
        final int[] frequencies = new int[BUSES];
        final int[] phases = new int[BUSES];
        int consumerCount;
        boolean shoreIsThere;
        int shoreFrequency;

        Plant(Journal journal, Board board) {
            this.journal = journal;
            this.board = board;
            for (int i = 0; i < SETS; i++) {
                sets[i] = new PowerSet(i);
            }
        }

        boolean isLead(int bus) {
            return board.leads[bus] == bus;
        }

        boolean inGroup(int bus, int otherBus) {
            return board.leads[bus] == board.leads[otherBus];
        }

        boolean isLive(int bus) {
            return capacityAt(bus) > 0;
        }

        int frequencyOf(int bus) {
            return isLive(bus) ? frequencies[bus] : 0;
        }

        int phaseOf(int bus) {
            return isLive(bus) ? phases[bus] : 0;
        }

        int capacityAt(int bus) {
            int lead = board.leads[bus];
            int sum = 0;
            for (int i = 0; i < SETS; i++) {
                if (sets[i].isAtBus() && board.leads[sets[i].bus] == lead) {
                    sum += sets[i].rating;
                }
            }
            return sum;
        }

        int demandAt(int bus) {
            int sum = 0;
            for (int i = 0; i < consumerCount; i++) {
                if (inGroup(consumers[i].bus, bus)) {
                    sum += consumers[i].demandIn(journal.now);
                }
            }
            return sum;
        }

        boolean feeds(PowerSet one, int bus) {
            return one.isAtBus() && inGroup(one.bus, bus);
        }

        boolean isOnIn(PowerSet one, int bus) {
            return one.state == ON && inGroup(one.bus, bus);
        }

        /** All buses of a group run in step. */
        void putInStep(int bus, int frequency, int phase) {
            for (int b = 0; b < BUSES; b++) {
                if (inGroup(b, bus)) {
                    frequencies[b] = frequency;
                    phases[b] = phase;
                }
            }
        }

        void enter(PowerSet one, int state) {
            one.state = state;
            journal.note(EVENT_OF_STATE[state], one.number);
        }

        void beginStart(PowerSet one) {
            one.state = STARTING;
            one.left = START_TICKS;
            journal.note(EVENT_OF_STATE[STARTING], one.number);
        }

        void becomeIdle(PowerSet one, int speed) {
            one.speed = speed;
            one.phase = 0;
            one.tries = 0;
            enter(one, IDLE);
        }

        void joinBus(PowerSet one) {
            boolean wasLive = isLive(one.bus);
            if (!board.close(one.number)) {
                return;
            }
            one.weight = FULL_WEIGHT;
            enter(one, ON);
            if (!wasLive) {
                putInStep(one.bus, one.speed, one.phase);
            }
        }

        /** Takes a set off its bus into another state; false if its breaker sticks. */
        boolean leaveBus(PowerSet one, int state, int ticksLeft) {
            if (!board.open(one.number)) {
                return false;
            }
            clear(one);
            one.left = ticksLeft;
            enter(one, state);
            return true;
        }

        void loseShore() {
            PowerSet one = sets[SHORE_SET];
            if (one.isAtBus()) {
                // Not by Board.open: the shore is gone whether the breaker sticks or not.
                board.closed &= ~(1 << SHORE_SET);
                clear(one);
                one.state = OFF;
            } else if (one.state == IDLE) {
                one.state = OFF;
            }
        }

        private void clear(PowerSet one) {
            one.load = 0;
            one.heat = 0;
            one.weight = 0;
            one.offTicks = 0;
        }

        int addConsumer(int bus, int cls, int kilowatts, int factor) {
            int number = consumerCount;
            consumers[number] = new Consumer(number, bus, cls, kilowatts, factor);
            consumerCount++;
            return number;
        }

        void request(Consumer one) {
            if (one.state == CONNECTED || one.state == STORED) {
                return;
            }
            if (canConnect(one)) {
                connect(one, journal.now + 1);
            } else {
                one.state = WAITING;
            }
        }

        boolean canConnect(Consumer one) {
            int capacity = capacityAt(one.bus);
            return capacity > 0 && (!one.isHeavy() || capacity - demandAt(one.bus) >= one.firstDemand);
        }

        void connect(Consumer one, int firstTick) {
            one.firstTick = firstTick;
            moveConsumer(one, CONNECTED, EVENT_CONNECTED);
        }

        void moveConsumer(Consumer one, int state, int kind) {
            one.state = state;
            journal.note(kind, one.number);
        }
    }

    /** Steps 1 to 3: sets run, breakers close. */
    private static final class Coupling {
        final Plant plant;
        final Board board;
        final int[] liveTicks = {0, 0};
        boolean tieOrdered;

        Coupling(Plant plant) {
            this.plant = plant;
            board = plant.board;
        }

        boolean orderTie() {
            if (board.isClosed(TIE) || tieOrdered) {
                return false;
            }
            tieOrdered = true;
            return true;
        }

        boolean openTie() {
            tieOrdered = false;
            return board.isClosed(TIE) && board.open(TIE);
        }

        void runSets() {
            for (int i = 0; i < SETS; i++) {
                PowerSet one = plant.sets[i];
                if (one.state == STARTING) {
                    crank(one);
                } else if (one.state == COOLING) {
                    cool(one);
                } else if (one.state == IDLE) {
                    turn(one);
                }
            }
        }

        private void crank(PowerSet one) {
            one.left--;
            if (one.left > 0) {
                return;
            }
            if (one.failure != NO_START) {
                plant.becomeIdle(one, 59000);
                return;
            }
            one.tries++;
            if (one.tries >= 3) {
                plant.enter(one, BLOCKED);
            } else {
                one.left = START_TICKS;
            }
        }

        private void cool(PowerSet one) {
            one.left--;
            if (one.left <= 0) {
                one.state = OFF;
            }
        }

        private void turn(PowerSet one) {
            if (one.number == SHORE_SET) {
                one.speed = plant.shoreFrequency;
            } else {
                boolean follows = one.number != EMERGENCY_SET && plant.isLive(one.bus);
                int wanted = follows ? plant.frequencies[one.bus] + 100 : 60000;
                one.speed = approach(one.speed, wanted, 20);
            }
            one.phase = turned(one.phase, one.speed);
        }

        void closeSets() {
            for (int i = 0; i < SETS; i++) {
                PowerSet one = plant.sets[i];
                if (one.state != IDLE || !one.hasNode()) {
                    continue;
                }
                if (i == EMERGENCY_SET ? freeEssentialBus() : mayClose(one)) {
                    plant.joinBus(one);
                }
            }
        }

        /** Cuts a dead essential bus off from the feeders; false if it is live or a feeder sticks. */
        private boolean freeEssentialBus() {
            return !plant.isLive(ESSENTIAL_BUS)
                    && (!board.isClosed(FEEDER_0) || board.open(FEEDER_0))
                    && (!board.isClosed(FEEDER_1) || board.open(FEEDER_1));
        }

        private boolean mayClose(PowerSet one) {
            return !plant.isLive(one.bus) || inStep(one.bus, one.speed, one.phase);
        }

        private boolean inStep(int bus, int speed, int phase) {
            int way = Math.abs(plant.phases[bus] - phase);
            int angle = Math.min(way, CIRCLE - way);
            return Math.abs(plant.frequencies[bus] - speed) <= 150 && angle <= 5000;
        }

        void closeTie() {
            if (!tieOrdered || board.isClosed(TIE)) {
                return;
            }
            int source = plant.isLive(0) ? 0 : 1;
            if (tieMayClose() && board.close(TIE)) {
                tieOrdered = false;
                plant.putInStep(0, plant.frequencies[source], plant.phases[source]);
            }
        }

        private boolean tieMayClose() {
            return plant.inGroup(0, 1)
                    || !plant.isLive(0)
                    || !plant.isLive(1)
                    || inStep(0, plant.frequencies[1], plant.phases[1]);
        }

        void feedEssential() {
            boolean live0 = countLiveTicks(0);
            boolean live1 = countLiveTicks(1);
            PowerSet emergency = plant.sets[EMERGENCY_SET];
            if (emergency.state == ON) {
                if (liveTicks[0] >= 100 || liveTicks[1] >= 100) {
                    plant.leaveBus(emergency, COOLING, REST_TICKS);
                }
            } else if (board.isClosed(FEEDER_0)) {
                if (!live0 && live1 && board.open(FEEDER_0)) {
                    feed(FEEDER_1, 1);
                }
            } else if (board.isClosed(FEEDER_1)) {
                if (!live1 && live0 && board.open(FEEDER_1)) {
                    feed(FEEDER_0, 0);
                }
            } else if (live0) {
                feed(FEEDER_0, 0);
            } else if (live1) {
                feed(FEEDER_1, 1);
            }
        }

        private boolean countLiveTicks(int bus) {
            boolean live = plant.isLive(bus);
            liveTicks[bus] = live ? liveTicks[bus] + 1 : 0;
            return live;
        }

        private void feed(int feeder, int bus) {
            if (board.close(feeder)) {
                plant.putInStep(bus, plant.frequencies[bus], plant.phases[bus]);
            }
        }
    }

    /** Steps 4 and 5: frequencies and loads. */
    private static final class Sharing {
        final Plant plant;
        final int[] parts = new int[SETS];

        Sharing(Plant plant) {
            this.plant = plant;
        }

        void steerGroups() {
            for (int bus = 0; bus < BUSES; bus++) {
                int capacity = plant.capacityAt(bus);
                if (plant.isLead(bus) && capacity > 0) {
                    steer(bus, capacity);
                }
            }
        }

        private void steer(int bus, int capacity) {
            int target = Math.max(60600 - 1200 * plant.demandAt(bus) / capacity, 55000);
            if (plant.feeds(plant.sets[SHORE_SET], bus)) {
                target = plant.shoreFrequency;
            }
            int frequency = approach(plant.frequencies[bus], target, 40);
            plant.putInStep(bus, frequency, turned(plant.phases[bus], frequency));
        }

        void shareLoads() {
            for (int bus = 0; bus < BUSES; bus++) {
                if (plant.isLead(bus)) {
                    share(bus, plant.demandAt(bus));
                }
            }
        }

        private void share(int bus, int demand) {
            int all = findParts(bus);
            int rest = all > 0 ? demand : 0;
            for (int i = 0; i < SETS; i++) {
                if (plant.feeds(plant.sets[i], bus)) {
                    int load = all > 0 ? demand * parts[i] / all : 0;
                    plant.sets[i].load = load;
                    rest -= load;
                }
            }
            // Each share lost less than a kilowatt to rounding, so one round deals out all of the rest.
            for (int i = 0; i < SETS && rest > 0; i++) {
                if (plant.feeds(plant.sets[i], bus)) {
                    plant.sets[i].load++;
                    rest--;
                }
            }
        }

        private int findParts(int bus) {
            int all = 0;
            for (int i = 0; i < SETS; i++) {
                if (plant.feeds(plant.sets[i], bus)) {
                    parts[i] = partOf(plant.sets[i]);
                    all += parts[i];
                }
            }
            return all;
        }

        private int partOf(PowerSet one) {
            int part = one.rating * one.weight / FULL_WEIGHT;
            if (one.failure == GOVERNOR_HIGH) {
                return part * 2;
            }
            return one.failure == GOVERNOR_LOW ? part / 4 : part;
        }
    }

    /** Steps 6 and 7: what is taken off before it breaks. */
    private static final class Protection {
        final Plant plant;
        final int[] lowTicks = {0, 0, 0};
        boolean hasShed;
        int latestShedding;
        int shedSoFar;

        Protection(Plant plant) {
            this.plant = plant;
        }

        void guardSets() {
            for (int i = 0; i < SETS; i++) {
                PowerSet one = plant.sets[i];
                if (!one.isAtBus()) {
                    continue;
                }
                warm(one);
                if (one.heat >= 20000) {
                    plant.leaveBus(one, COOLING, TRIP_TICKS);
                } else if (i != SHORE_SET && isOffTooLong(one)) {
                    plant.leaveBus(one, BLOCKED, 0);
                }
            }
        }

        private void warm(PowerSet one) {
            if (one.load > one.rating) {
                one.heat += one.load - one.rating;
            } else {
                one.heat = Math.max(one.heat - 20, 0L);
            }
        }

        private boolean isOffTooLong(PowerSet one) {
            one.offTicks = strays(one) ? one.offTicks + 1 : 0;
            return one.offTicks >= 100;
        }

        private boolean strays(PowerSet one) {
            int sum = 0;
            int members = 0;
            for (int i = 0; i < SETS; i++) {
                if (plant.isOnIn(plant.sets[i], one.bus)) {
                    sum += plant.sets[i].rating;
                    members++;
                }
            }
            if (one.state != ON || members < 3 || sum <= 0) {
                return false;
            }
            int due = plant.demandAt(one.bus) * one.rating / sum;
            return Math.abs(one.load - due) > one.rating / 8;
        }

        void guardGroups() {
            for (int bus = 0; bus < BUSES; bus++) {
                if (!plant.isLead(bus) || !isLowTooLong(bus)) {
                    continue;
                }
                for (int i = 0; i < SETS; i++) {
                    if (plant.feeds(plant.sets[i], bus)) {
                        plant.leaveBus(plant.sets[i], COOLING, TRIP_TICKS);
                    }
                }
            }
        }

        private boolean isLowTooLong(int bus) {
            boolean low = plant.isLive(bus) && plant.frequencies[bus] < 57000;
            lowTicks[bus] = low ? lowTicks[bus] + 1 : 0;
            return lowTicks[bus] >= 20;
        }

        void shedLoads() {
            for (int bus = 0; bus < BUSES; bus++) {
                if (plant.isLead(bus) && isStrained(bus) && mayShed()) {
                    shedLeastClass(bus);
                }
            }
        }

        private boolean isStrained(int bus) {
            if (!plant.isLive(bus)) {
                return false;
            }
            boolean hot = false;
            for (int i = 0; i < SETS; i++) {
                hot = hot || plant.feeds(plant.sets[i], bus) && plant.sets[i].heat >= 5000;
            }
            return hot || plant.frequencies[bus] < 58500;
        }

        private boolean mayShed() {
            return !hasShed || plant.journal.now - latestShedding >= 20;
        }

        private void shedLeastClass(int bus) {
            int least = leastClass(bus);
            for (int i = 0; i < plant.consumerCount; i++) {
                Consumer one = plant.consumers[i];
                if (isConnectedIn(one, bus) && one.cls == least) {
                    plant.moveConsumer(one, SHED, EVENT_SHED);
                    shedSoFar++;
                    hasShed = true;
                    latestShedding = plant.journal.now;
                }
            }
        }

        /** The least class that can be shed, or NONE. */
        private int leastClass(int bus) {
            int least = ESSENTIAL_CLASS;
            for (int i = 0; i < plant.consumerCount; i++) {
                if (isConnectedIn(plant.consumers[i], bus)) {
                    least = Math.min(least, plant.consumers[i].cls);
                }
            }
            return least < ESSENTIAL_CLASS ? least : NONE;
        }

        private boolean isConnectedIn(Consumer one, int bus) {
            return one.state == CONNECTED && plant.inGroup(one.bus, bus);
        }
    }

    /** Steps 8 to 10: consumers that wait, sets that are called and sent away. */
    private static final class Manager {
        final Plant plant;
        final int[] startOrder = {0, 1, 2, 3};
        final int[] calmLooks = {0, 0, 0};
        int reserve = RESERVE_OF_MODE[0];
        int parallelTicks;

        Manager(Plant plant) {
            this.plant = plant;
        }

        boolean takeOrder(int sets) {
            int seen = 0;
            for (int i = 0; i < MAIN_SETS; i++) {
                seen |= 1 << (sets >> 2 * i & 3);
            }
            if (seen != 15) {
                return false;
            }
            for (int i = 0; i < MAIN_SETS; i++) {
                startOrder[i] = sets >> 2 * i & 3;
            }
            return true;
        }

        PowerSet inOrder(int place) {
            return plant.sets[startOrder[place]];
        }

        boolean canStart(PowerSet one) {
            return one.state == OFF && one.hasNode();
        }

        void connectWaiting() {
            for (int i = 0; i < plant.consumerCount; i++) {
                Consumer one = plant.consumers[i];
                if (one.state == WAITING && plant.canConnect(one)) {
                    plant.connect(one, plant.journal.now);
                }
            }
        }

        void lookAtGroups() {
            if (plant.journal.now % 20 != 0) {
                return;
            }
            for (int bus = 0; bus < ESSENTIAL_BUS; bus++) {
                if (plant.isLead(bus)) {
                    inspect(bus, needAt(bus), comingAt(bus));
                }
            }
        }

        private void inspect(int bus, int need, int coming) {
            if (coming < need) {
                calmLooks[bus] = 0;
                PowerSet next = nextToStart(bus);
                if (next != null) {
                    plant.beginStart(next);
                }
                return;
            }
            PowerSet last = lastOn(bus);
            boolean calm = last != null && coming - last.rating >= need && mainSetsOn(bus) >= 2;
            calmLooks[bus] = calm ? calmLooks[bus] + 1 : 0;
            if (calm && calmLooks[bus] >= 10) {
                plant.enter(last, UNLOADING);
                calmLooks[bus] = 0;
            }
        }

        private int needAt(int bus) {
            int need = plant.demandAt(bus) + reserve;
            for (int i = 0; i < plant.consumerCount; i++) {
                Consumer one = plant.consumers[i];
                if (one.state == WAITING && one.isHeavy() && plant.inGroup(one.bus, bus)) {
                    need += one.firstDemand;
                }
            }
            return need;
        }

        private int comingAt(int bus) {
            int coming = 0;
            for (int i = 0; i < MAIN_SETS; i++) {
                PowerSet one = plant.sets[i];
                if (one.isComing() && plant.inGroup(one.bus, bus)) {
                    coming += one.rating;
                }
            }
            return coming;
        }

        /** The first set in the start order that can be started, or null. */
        private PowerSet nextToStart(int bus) {
            for (int i = 0; i < MAIN_SETS; i++) {
                PowerSet one = inOrder(i);
                if (canStart(one) && plant.inGroup(one.bus, bus)) {
                    return one;
                }
            }
            return null;
        }

        /** The last set in the start order that may be sent away, or null. */
        private PowerSet lastOn(int bus) {
            PowerSet last = null;
            for (int i = 0; i < MAIN_SETS; i++) {
                if (plant.isOnIn(inOrder(i), bus) && inOrder(i).hasNode()) {
                    last = inOrder(i);
                }
            }
            return last;
        }

        private int mainSetsOn(int bus) {
            int on = 0;
            for (int i = 0; i < MAIN_SETS; i++) {
                if (plant.isOnIn(plant.sets[i], bus)) {
                    on++;
                }
            }
            return on;
        }

        void unloadSets() {
            for (int i = 0; i < SETS; i++) {
                PowerSet one = plant.sets[i];
                if (one.state != UNLOADING) {
                    continue;
                }
                one.weight = Math.max(one.weight - 50, 0);
                if (one.weight == 0) {
                    plant.leaveBus(one, COOLING, REST_TICKS);
                }
            }
        }

        void watchShore() {
            PowerSet shoreSet = plant.sets[SHORE_SET];
            boolean parallel = shoreSet.state == ON && mainSetsOn(shoreSet.bus) > 0;
            parallelTicks = parallel ? parallelTicks + 1 : 0;
            if (parallelTicks >= 200) {
                parallelTicks = 0;
                sendAwayAll(shoreSet.bus);
            }
        }

        private void sendAwayAll(int bus) {
            for (int i = 0; i < MAIN_SETS; i++) {
                PowerSet one = plant.sets[i];
                if (plant.isOnIn(one, bus) && one.hasNode()) {
                    plant.enter(one, UNLOADING);
                }
            }
        }
    }

    /** Step 11: the way out of a blackout. */
    private static final class Ladder {
        final Plant plant;
        final Manager manager;
        int darkTicks;
        int step;
        int nextClass;
        int blackouts;

        Ladder(Plant plant, Manager manager) {
            this.plant = plant;
            this.manager = manager;
        }

        void climb() {
            boolean mainLive = plant.isLive(0) || plant.isLive(1);
            darkTicks = mainLive || plant.isLive(ESSENTIAL_BUS) ? 0 : darkTicks + 1;
            if (step == 0) {
                if (darkTicks >= 20) {
                    beginBlackout();
                }
            } else if (step == 1) {
                if (mainLive) {
                    nextClass = ESSENTIAL_CLASS;
                    goTo(2);
                }
            } else if (plant.journal.now % 10 == 0) {
                bringBackClass();
            }
        }

        private void goTo(int newStep) {
            step = newStep;
            plant.journal.note(EVENT_LADDER, newStep);
        }

        private void beginBlackout() {
            blackouts++;
            storeConsumers();
            if (manager.canStart(plant.sets[EMERGENCY_SET])) {
                plant.beginStart(plant.sets[EMERGENCY_SET]);
            }
            startFirstTwo();
            goTo(1);
        }

        private void storeConsumers() {
            for (int i = 0; i < plant.consumerCount; i++) {
                if (plant.consumers[i].state == CONNECTED) {
                    plant.moveConsumer(plant.consumers[i], STORED, EVENT_STORED);
                }
            }
        }

        private void startFirstTwo() {
            int started = 0;
            for (int i = 0; i < MAIN_SETS && started < 2; i++) {
                if (manager.canStart(manager.inOrder(i))) {
                    plant.beginStart(manager.inOrder(i));
                    started++;
                }
            }
        }

        private void bringBackClass() {
            for (int i = 0; i < plant.consumerCount; i++) {
                Consumer one = plant.consumers[i];
                if (one.state == STORED && one.cls == nextClass && plant.isLive(one.bus)) {
                    one.state = WAITING;
                }
            }
            nextClass--;
            if (nextClass < 0) {
                goTo(0);
            }
        }
    }
}
