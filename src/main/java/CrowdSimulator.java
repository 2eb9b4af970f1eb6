import java.util.Arrays;
import java.util.NoSuchElementException;

/**
 * A simulator of crowds on a grid of 14 columns and 10 rows. Cells are numbered row by row from
 * the north-west; NONE stands for a cell, an agent, a goal or a direction that there is not.
 */
public final class CrowdSimulator {
    private static final int NONE = -1;
    private static final int COLUMNS = 14;
    private static final int ROWS = 10;
    private static final int CELLS = COLUMNS * ROWS;
    private static final int DIRECTIONS = 4;
    private static final int WALL = 0;
    private static final int MAX_COST = 9;
    private static final int GOALS = 4;
    private static final int AGENTS = 16;
    private static final int MAX_PRIORITY = 9;
    private static final int MAX_PATIENCE = 9;
    private static final int FIRST_PATIENCE = 3;
    private static final int MAX_OFFSET = 3;
    private static final int MAX_TICKS = 50;
    private static final int MAX_FORECAST = 100;
    private static final int STUCK_WAIT = 2;
    private static final int SMALLEST_JAM = 2;
    private static final int UNREACHED = 9999;
    private static final int DETOUR = 2;
    private static final int MAX_UNDO = 8;
    private static final int MAX_BUFFER = 150;
    private static final int MAP_LENGTH = ROWS * (COLUMNS + 1) - 1;
    private static final int SYNTAX_ERROR = -100;

    private static final int TIME = 0;
    private static final int MOVES = 1;
    private static final int PUSHES = 2;
    private static final int DETOURS = 3;
    private static final int DELAYS = 4;
    private static final int STATISTICS = 5;

    private final State state;
    private final Fields fields;
    private final Crowd crowd;
    private final Crowd trial;
    private final History history;
    private final State saved;
    private boolean isSaved;
    private final MapText text;

    public CrowdSimulator() {
        state = new State();
        fields = new Fields();
        crowd = new Crowd(state, fields);
        trial = new Crowd(new State(), fields);
        history = new History();
        saved = new State();
        isSaved = false;
        text = new MapText();
    }

    // ---- grid and goals

    public int setCell(int x, int y, int cost)
            throws IndexOutOfBoundsException, IllegalArgumentException, IllegalStateException {
        requireCell(x, y);
        requireArgument(cost >= WALL && cost <= MAX_COST);
        int cell = cellAt(x, y);
        if (cost == WALL && crowd.isInUse(cell)) {
            throw new IllegalStateException("an agent or a goal is on the cell");
        }
        history.record(state);
        int previous = state.costs[cell];
        state.costs[cell] = cost;
        fields.forgetAll();
        return previous;
    }

    public int cell(int x, int y, int what) throws IndexOutOfBoundsException, IllegalArgumentException {
        requireCell(x, y);
        int cell = cellAt(x, y);
        switch (what) {
            case 0:
                return state.costs[cell];
            case 1:
                return crowd.agentOn(cell);
            case 2:
                return state.passes[cell];
            case 3:
                return crowd.goalOn(cell);
            default:
                throw new IllegalArgumentException("no such number about a cell");
        }
    }

    public int setGoal(int goal, int x, int y) throws IndexOutOfBoundsException, IllegalStateException {
        requireGoal(goal);
        requireCell(x, y);
        int cell = cellAt(x, y);
        if (state.costs[cell] == WALL) {
            throw new IllegalStateException("the cell is a wall");
        }
        history.record(state);
        state.goalCells[goal] = cell;
        return fields.toward(cell, state.costs).reachedCells();
    }

    public int dropGoal(int goal) throws IndexOutOfBoundsException, NoSuchElementException {
        requireGoal(goal);
        requireSetGoal(goal);
        history.record(state);
        state.goalCells[goal] = NONE;
        int holders = 0;
        for (int agent = 0; agent < AGENTS; agent++) {
            if (crowd.exists(agent) && state.goals[agent] == goal) {
                holders++;
            }
        }
        return holders;
    }

    public int distance(int goal, int x, int y) throws IndexOutOfBoundsException, NoSuchElementException {
        return fieldOfGoal(goal, x, y).distanceOf(cellAt(x, y));
    }

    public int flow(int goal, int x, int y) throws IndexOutOfBoundsException, NoSuchElementException {
        return fieldOfGoal(goal, x, y).flowOf(cellAt(x, y), state.costs);
    }

    public int steps(int goal, int x, int y) throws IndexOutOfBoundsException, NoSuchElementException {
        return fieldOfGoal(goal, x, y).stepsFrom(cellAt(x, y), state.costs);
    }

    public int setPatience(int patience) throws IllegalArgumentException {
        requireArgument(patience >= 0 && patience <= MAX_PATIENCE);
        history.record(state);
        int previous = state.patience;
        state.patience = patience;
        return previous;
    }

    // ---- agents

    public int add(int x, int y, int goal, int priority)
            throws IndexOutOfBoundsException, IllegalArgumentException, IllegalStateException {
        requireCell(x, y);
        requireArgument(isGoalOrNone(goal) && isPriority(priority));
        int cell = cellAt(x, y);
        if (!crowd.isFree(cell)) {
            throw new IllegalStateException("the cell is not free");
        }
        int agent = crowd.lowestUnused();
        if (agent == NONE) {
            throw new IllegalStateException("there are 16 agents");
        }
        history.record(state);
        state.place(agent, cell, goal, priority);
        return agent;
    }

    public int remove(int agent) throws IndexOutOfBoundsException {
        requireAgent(agent);
        history.record(state);
        state.erase(agent);
        return Integer.bitCount(crowd.all());
    }

    public int change(int agent, boolean isGoal, int value)
            throws IndexOutOfBoundsException, IllegalArgumentException {
        requireAgent(agent);
        requireArgument(isGoal ? isGoalOrNone(value) : isPriority(value));
        history.record(state);
        int[] changed = isGoal ? state.goals : state.priorities;
        int previous = changed[agent];
        changed[agent] = value;
        return previous;
    }

    public int agent(int agent, int what) throws IndexOutOfBoundsException, IllegalArgumentException {
        requireAgent(agent);
        switch (what) {
            case 0:
                return columnOf(state.places[agent]);
            case 1:
                return rowOf(state.places[agent]);
            case 2:
                return state.goals[agent];
            case 3:
                return state.priorities[agent];
            case 4:
                return state.headings[agent];
            case 5:
                return state.waits[agent];
            case 6:
                return state.leaders[agent];
            case 7:
                return columnOf(crowd.targetOf(agent));
            case 8:
                return rowOf(crowd.targetOf(agent));
            case 9:
                return crowd.distanceLeft(agent);
            case 10:
                return crowd.isSettled(agent) ? 1 : 0;
            default:
                throw new IllegalArgumentException("no such number about an agent");
        }
    }

    public int agents(int what) throws IllegalArgumentException {
        switch (what) {
            case 0:
                return crowd.all();
            case 1:
                return crowd.settledOnes();
            case 2:
                return crowd.stuckOnes();
            case 3:
                return crowd.leadingOnes();
            case 4:
                return crowd.memberOnes();
            default:
                throw new IllegalArgumentException("no such set of agents");
        }
    }

    // ---- formations

    public int join(int agent, int leader, int ox, int oy)
            throws IndexOutOfBoundsException, IllegalArgumentException, IllegalStateException {
        requireAgent(agent);
        requireAgent(leader);
        requireArgument(agent != leader && isOffset(ox) && isOffset(oy) && (ox != 0 || oy != 0));
        if (crowd.isLeader(agent) || crowd.isMember(leader)) {
            throw new IllegalStateException("a leader can not be a member");
        }
        history.record(state);
        state.leaders[agent] = leader;
        state.offsetsX[agent] = ox;
        state.offsetsY[agent] = oy;
        return Integer.bitCount(crowd.membersOf(leader));
    }

    public int leave(int agent) throws IndexOutOfBoundsException, IllegalStateException {
        requireAgent(agent);
        if (!crowd.isMember(agent)) {
            throw new IllegalStateException("the agent is no member");
        }
        history.record(state);
        int previous = state.leaders[agent];
        state.leaders[agent] = NONE;
        return previous;
    }

    public int disorder(int leader) throws IndexOutOfBoundsException, IllegalStateException {
        requireAgent(leader);
        int members = crowd.membersOf(leader);
        if (members == 0) {
            throw new IllegalStateException("the agent is no leader");
        }
        int sum = 0;
        for (int agent = 0; agent < AGENTS; agent++) {
            if (isIn(members, agent)) {
                int place = state.places[agent];
                int target = crowd.targetOf(agent);
                sum += Math.abs(columnOf(place) - columnOf(target));
                sum += Math.abs(rowOf(place) - rowOf(target));
            }
        }
        return sum;
    }

    // ---- time

    public int tick(int ticks) throws IllegalArgumentException {
        requireArgument(ticks >= 1 && ticks <= MAX_TICKS);
        history.record(state);
        for (int i = 0; i < ticks; i++) {
            crowd.passTick();
        }
        return state.statistics[TIME];
    }

    public int statistic(int what) throws IllegalArgumentException {
        requireArgument(what >= 0 && what < STATISTICS);
        return state.statistics[what];
    }

    public int forecast(int agent) throws IndexOutOfBoundsException, NoSuchElementException {
        requireAgent(agent);
        trial.state.copyFrom(state);
        for (int ticks = 0; ticks < MAX_FORECAST; ticks++) {
            if (trial.isSettled(agent)) {
                return ticks;
            }
            trial.passTick();
        }
        if (!trial.isSettled(agent)) {
            throw new NoSuchElementException("not settled after 100 ticks or fewer");
        }
        return MAX_FORECAST;
    }

    public int bottleneck() throws NoSuchElementException {
        int narrowest = NONE;
        int most = 0;
        for (int cell = 0; cell < CELLS; cell++) {
            if (state.passes[cell] > most) {
                narrowest = cell;
                most = state.passes[cell];
            }
        }
        if (narrowest == NONE) {
            throw new NoSuchElementException("no cell has passes");
        }
        return 100 * rowOf(narrowest) + columnOf(narrowest);
    }

    // ---- jams

    public int jams() {
        int stuck = crowd.stuckOnes();
        int count = 0;
        for (int agent = 0; agent < AGENTS; agent++) {
            if (crowd.jamFrom(agent, stuck) != 0) {
                count++;
            }
        }
        return count;
    }

    public int jam(int jam, int what) throws IndexOutOfBoundsException, IllegalArgumentException {
        int members = crowd.jamNumber(jam);
        if (members == 0) {
            throw new IndexOutOfBoundsException("no such jam");
        }
        switch (what) {
            case 0:
                return members;
            case 1:
                return Integer.bitCount(members);
            case 2:
                return crowd.sumOfWaits(members);
            case 3:
                return crowd.freeCellsAround(members);
            default:
                throw new IllegalArgumentException("no such number about a jam");
        }
    }

    public double meanDistance() throws ArithmeticException {
        int sum = 0;
        int count = 0;
        for (int agent = 0; agent < AGENTS; agent++) {
            int distance = crowd.exists(agent) ? crowd.distanceLeft(agent) : NONE;
            if (distance != NONE) {
                sum += distance;
                count++;
            }
        }
        if (count == 0) {
            throw new ArithmeticException("no agent has a distance from its target");
        }
        return (double) sum / (double) count;
    }

    public float density() throws ArithmeticException {
        int open = 0;
        for (int cell = 0; cell < CELLS; cell++) {
            if (state.costs[cell] != WALL) {
                open++;
            }
        }
        if (open == 0) {
            throw new ArithmeticException("all cells are walls");
        }
        return (float) Integer.bitCount(crowd.all()) / (float) open;
    }

    // ---- maps, undo and snapshots

    public int feed(char letter) throws IllegalStateException {
        if (text.isFull()) {
            throw new IllegalStateException("the buffer holds 150 characters");
        }
        return text.append(letter);
    }

    public int readMap() throws IllegalStateException {
        int error = text.parse();
        text.empty();
        if (error != NONE) {
            return SYNTAX_ERROR - error;
        }
        for (int cell = 0; cell < CELLS; cell++) {
            if (text.costs[cell] == WALL && crowd.isInUse(cell)) {
                throw new IllegalStateException("an agent or a goal is on a new wall");
            }
        }
        history.record(state);
        int count = 0;
        for (int cell = 0; cell < CELLS; cell++) {
            if (text.costs[cell] != NONE) {
                state.costs[cell] = text.costs[cell];
                count++;
            }
        }
        fields.forgetAll();
        return count;
    }

    public char map(int i) throws IndexOutOfBoundsException {
        if (i < 0 || i >= MAP_LENGTH) {
            throw new IndexOutOfBoundsException("no such index");
        }
        int x = i % (COLUMNS + 1);
        if (x == COLUMNS) {
            return '/';
        }
        int cost = state.costs[cellAt(x, i / (COLUMNS + 1))];
        return cost == WALL ? '#' : (char) ('0' + cost);
    }

    public int undo() throws IllegalStateException {
        if (history.count == 0) {
            throw new IllegalStateException("no change can be taken back");
        }
        history.takeBack(state);
        fields.forgetAll();
        return history.count;
    }

    public int save() {
        saved.copyFrom(state);
        isSaved = true;
        return Integer.bitCount(crowd.all());
    }

    public int restore() throws IllegalStateException {
        if (!isSaved) {
            throw new IllegalStateException("nothing was saved");
        }
        state.copyFrom(saved);
        history.clear();
        fields.forgetAll();
        return Integer.bitCount(crowd.all());
    }

    // ---- what the arguments must be

    private static void requireCell(int x, int y) {
        if (cellAt(x, y) == NONE) {
            throw new IndexOutOfBoundsException("no such cell");
        }
    }

    private static void requireGoal(int goal) {
        if (goal < 0 || goal >= GOALS) {
            throw new IndexOutOfBoundsException("no such goal");
        }
    }

    private void requireSetGoal(int goal) {
        if (state.goalCells[goal] == NONE) {
            throw new NoSuchElementException("the goal is not set");
        }
    }

    private void requireAgent(int agent) {
        if (!crowd.exists(agent)) {
            throw new IndexOutOfBoundsException("no such agent");
        }
    }

    private static void requireArgument(boolean isInRange) {
        if (!isInRange) {
            throw new IllegalArgumentException("an argument is out of range");
        }
    }

    private static boolean isGoalOrNone(int goal) {
        return goal >= NONE && goal < GOALS;
    }

    private static boolean isPriority(int priority) {
        return priority >= 0 && priority <= MAX_PRIORITY;
    }

    private static boolean isOffset(int offset) {
        return offset >= -MAX_OFFSET && offset <= MAX_OFFSET;
    }

    private Field fieldOfGoal(int goal, int x, int y) {
        requireGoal(goal);
        requireCell(x, y);
        requireSetGoal(goal);
        return fields.toward(state.goalCells[goal], state.costs);
    }

    // ---- cells, directions and sets

    private static int cellAt(int x, int y) {
        boolean isInside = x >= 0 && x < COLUMNS && y >= 0 && y < ROWS;
        return isInside ? y * COLUMNS + x : NONE;
    }

    private static int columnOf(int cell) {
        return cell == NONE ? NONE : cell % COLUMNS;
    }

    private static int rowOf(int cell) {
        return cell == NONE ? NONE : cell / COLUMNS;
    }

    private static int neighborOf(int cell, int direction) {
        if (cell < 0 || cell >= CELLS) {
            return NONE;
        }
        switch (direction) {
            case 0:
                return cell >= COLUMNS ? cell - COLUMNS : NONE;
            case 1:
                return cell % COLUMNS < COLUMNS - 1 ? cell + 1 : NONE;
            case 2:
                return cell < CELLS - COLUMNS ? cell + COLUMNS : NONE;
            case 3:
                return cell % COLUMNS > 0 ? cell - 1 : NONE;
            default:
                return NONE;
        }
    }

    private static boolean isIn(int set, int agent) {
        return (set & 1 << agent) != 0;
    }

    /** All that undo and restore bring back. An agent exists if it has a place. */
    private static final class State {
        final int[] costs = new int[CELLS];
        final int[] passes = new int[CELLS];
        final int[] goalCells = new int[GOALS];
        final int[] places = new int[AGENTS];
        final int[] goals = new int[AGENTS];
        final int[] priorities = new int[AGENTS];
        final int[] headings = new int[AGENTS];
        final int[] waits = new int[AGENTS];
        final int[] leaders = new int[AGENTS];
        final int[] offsetsX = new int[AGENTS];
        final int[] offsetsY = new int[AGENTS];
        final int[] statistics = new int[STATISTICS];
        int patience = FIRST_PATIENCE;

        State() {
            Arrays.fill(costs, 1);
            Arrays.fill(goalCells, NONE);
            Arrays.fill(places, NONE);
            Arrays.fill(goals, NONE);
            Arrays.fill(leaders, NONE);
        }

        void copyFrom(State other) {
            System.arraycopy(other.costs, 0, costs, 0, CELLS);
            System.arraycopy(other.passes, 0, passes, 0, CELLS);
            System.arraycopy(other.goalCells, 0, goalCells, 0, GOALS);
            System.arraycopy(other.places, 0, places, 0, AGENTS);
            System.arraycopy(other.goals, 0, goals, 0, AGENTS);
            System.arraycopy(other.priorities, 0, priorities, 0, AGENTS);
            System.arraycopy(other.headings, 0, headings, 0, AGENTS);
            System.arraycopy(other.waits, 0, waits, 0, AGENTS);
            System.arraycopy(other.leaders, 0, leaders, 0, AGENTS);
            System.arraycopy(other.offsetsX, 0, offsetsX, 0, AGENTS);
            System.arraycopy(other.offsetsY, 0, offsetsY, 0, AGENTS);
            System.arraycopy(other.statistics, 0, statistics, 0, STATISTICS);
            patience = other.patience;
        }

        void place(int agent, int cell, int goal, int priority) {
            places[agent] = cell;
            goals[agent] = goal;
            priorities[agent] = priority;
            headings[agent] = 0;
            waits[agent] = 0;
            leaders[agent] = NONE;
        }

        void erase(int agent) {
            places[agent] = NONE;
            goals[agent] = NONE;
            leaders[agent] = NONE;
            for (int member = 0; member < AGENTS; member++) {
                if (leaders[member] == agent) {
                    leaders[member] = NONE;
                }
            }
        }
    }

    /** The distances of all cells from one target. */
    private static final class Field {
        final int[] distances = new int[CELLS];
        boolean isKnown;

        Field() {
            Arrays.fill(distances, NONE);
            isKnown = false;
        }

        int distanceOf(int cell) {
            return cell >= 0 && cell < CELLS ? distances[cell] : NONE;
        }

        int flowOf(int cell, int[] costs) {
            int distance = distanceOf(cell);
            if (distance <= 0) {
                return NONE;
            }
            for (int direction = 0; direction < DIRECTIONS; direction++) {
                int next = neighborOf(cell, direction);
                int rest = distanceOf(next);
                if (rest != NONE && rest + costs[next] == distance) {
                    return direction;
                }
            }
            return NONE;
        }

        int stepsFrom(int cell, int[] costs) {
            if (distanceOf(cell) == NONE) {
                return NONE;
            }
            int steps = 0;
            int here = cell;
            while (distanceOf(here) > 0 && steps < CELLS) {
                here = neighborOf(here, flowOf(here, costs));
                steps++;
            }
            return steps;
        }

        int reachedCells() {
            int count = 0;
            for (int cell = 0; cell < CELLS; cell++) {
                if (distances[cell] != NONE) {
                    count++;
                }
            }
            return count;
        }
    }

    /** The fields of the targets, each one kept until a cost changes. */
    private static final class Fields {
        /** One more than the greatest cost, so that the keys that wait at once never share a bucket. */
        static final int BUCKETS = MAX_COST + 1;
        static final int MAX_KEY = CELLS * MAX_COST;

        final Field[] byTarget = new Field[CELLS];
        final Field nowhere = new Field();
        final int[] firstInBucket = new int[BUCKETS];
        final int[] nextInBucket = new int[CELLS];

        void forgetAll() {
            for (int target = 0; target < CELLS; target++) {
                Field field = byTarget[target];
                if (field != null) {
                    field.isKnown = false;
                }
            }
        }

        /** The field of a target; for NONE one in which no cell has a distance. */
        Field toward(int target, int[] costs) {
            if (target < 0 || target >= CELLS || costs[target] == WALL) {
                return nowhere;
            }
            Field field = byTarget[target];
            if (field == null) {
                field = new Field();
                byTarget[target] = field;
            }
            if (!field.isKnown) {
                spread(target, costs, field.distances);
                field.isKnown = true;
            }
            return field;
        }

        /**
         * All neighbors of a cell are as far over it as its key, its distance plus its cost. So if the
         * cells are taken in the order of their keys, the first to reach a neighbor gives its distance.
         */
        private void spread(int target, int[] costs, int[] distances) {
            Arrays.fill(distances, NONE);
            Arrays.fill(firstInBucket, NONE);
            distances[target] = 0;
            enqueue(target, costs[target]);
            int waiting = 1;
            for (int key = 1; key <= MAX_KEY && waiting > 0; key++) {
                int cell = firstInBucket[key % BUCKETS];
                firstInBucket[key % BUCKETS] = NONE;
                for (int i = 0; i < CELLS && cell != NONE; i++) {
                    waiting--;
                    for (int direction = 0; direction < DIRECTIONS; direction++) {
                        int next = neighborOf(cell, direction);
                        if (next != NONE && costs[next] != WALL && distances[next] == NONE) {
                            distances[next] = key;
                            enqueue(next, key + costs[next]);
                            waiting++;
                        }
                    }
                    cell = nextInBucket[cell];
                }
            }
        }

        private void enqueue(int cell, int key) {
            int bucket = key % BUCKETS;
            nextInBucket[cell] = firstInBucket[bucket];
            firstInBucket[bucket] = cell;
        }
    }

    /** The agents of a state: what they are, and what they do in a tick. */
    private static final class Crowd {
        final State state;
        final Fields fields;
        /** The agents that were pushed in the tick that runs. */
        int pushed;

        Crowd(State state, Fields fields) {
            this.state = state;
            this.fields = fields;
        }

        boolean exists(int agent) {
            return agent >= 0 && agent < AGENTS && state.places[agent] != NONE;
        }

        int lowestUnused() {
            for (int agent = 0; agent < AGENTS; agent++) {
                if (!exists(agent)) {
                    return agent;
                }
            }
            return NONE;
        }

        int agentOn(int cell) {
            for (int agent = 0; cell != NONE && agent < AGENTS; agent++) {
                if (state.places[agent] == cell) {
                    return agent;
                }
            }
            return NONE;
        }

        int goalOn(int cell) {
            for (int goal = 0; cell != NONE && goal < GOALS; goal++) {
                if (state.goalCells[goal] == cell) {
                    return goal;
                }
            }
            return NONE;
        }

        boolean isInUse(int cell) {
            return agentOn(cell) != NONE || goalOn(cell) != NONE;
        }

        boolean isFree(int cell) {
            return isOpen(cell) && agentOn(cell) == NONE;
        }

        private boolean isOpen(int cell) {
            return cell >= 0 && cell < CELLS && state.costs[cell] != WALL;
        }

        boolean isMember(int agent) {
            return state.leaders[agent] != NONE;
        }

        boolean isLeader(int agent) {
            return membersOf(agent) != 0;
        }

        int targetOf(int agent) {
            int leader = state.leaders[agent];
            if (exists(leader)) {
                int slot = slotOf(agent, leader);
                return isOpen(slot) ? slot : state.places[leader];
            }
            int goal = state.goals[agent];
            return goal >= 0 && goal < GOALS ? state.goalCells[goal] : NONE;
        }

        private int slotOf(int member, int leader) {
            int ox = state.offsetsX[member];
            int oy = state.offsetsY[member];
            int x = columnOf(state.places[leader]);
            int y = rowOf(state.places[leader]);
            switch (state.headings[leader]) {
                case 1:
                    return cellAt(x - oy, y + ox);
                case 2:
                    return cellAt(x - ox, y - oy);
                case 3:
                    return cellAt(x + oy, y - ox);
                default:
                    return cellAt(x + ox, y + oy);
            }
        }

        boolean isSettled(int agent) {
            int target = targetOf(agent);
            return target == NONE || target == state.places[agent];
        }

        int distanceLeft(int agent) {
            return fields.toward(targetOf(agent), state.costs).distanceOf(state.places[agent]);
        }

        // ---- sets of agents

        int all() {
            int set = 0;
            for (int agent = 0; agent < AGENTS; agent++) {
                if (exists(agent)) {
                    set |= 1 << agent;
                }
            }
            return set;
        }

        int settledOnes() {
            int set = 0;
            for (int agent = 0; agent < AGENTS; agent++) {
                if (exists(agent) && isSettled(agent)) {
                    set |= 1 << agent;
                }
            }
            return set;
        }

        int stuckOnes() {
            int set = 0;
            for (int agent = 0; agent < AGENTS; agent++) {
                if (exists(agent) && state.waits[agent] >= STUCK_WAIT) {
                    set |= 1 << agent;
                }
            }
            return set;
        }

        int leadingOnes() {
            int set = 0;
            for (int agent = 0; agent < AGENTS; agent++) {
                if (isMember(agent)) {
                    set |= 1 << state.leaders[agent];
                }
            }
            return set;
        }

        int memberOnes() {
            int set = 0;
            for (int agent = 0; agent < AGENTS; agent++) {
                if (isMember(agent)) {
                    set |= 1 << agent;
                }
            }
            return set;
        }

        int membersOf(int leader) {
            int set = 0;
            for (int agent = 0; agent < AGENTS; agent++) {
                if (state.leaders[agent] == leader) {
                    set |= 1 << agent;
                }
            }
            return set;
        }

        // ---- ticks

        void passTick() {
            state.statistics[TIME]++;
            pushed = 0;
            for (int priority = MAX_PRIORITY; priority >= 0; priority--) {
                for (int agent = 0; agent < AGENTS; agent++) {
                    if (exists(agent) && state.priorities[agent] == priority) {
                        takeTurn(agent);
                    }
                }
            }
        }

        private void takeTurn(int agent) {
            int target = targetOf(agent);
            int here = state.places[agent];
            if (target == NONE || target == here) {
                state.waits[agent] = 0;
                return;
            }
            if (isIn(pushed, agent)) {
                return;
            }
            Field field = fields.toward(target, state.costs);
            int direction = field.flowOf(here, state.costs);
            if (direction == NONE) {
                delay(agent);
                return;
            }
            int blocker = agentOn(neighborOf(here, direction));
            if (blocker == NONE || pushAside(blocker, agent)) {
                advance(agent, direction);
                return;
            }
            int detour = detourOf(agent, field);
            if (detour == NONE) {
                delay(agent);
                return;
            }
            advance(agent, detour);
            state.statistics[DETOURS]++;
        }

        private void delay(int agent) {
            state.waits[agent]++;
            state.statistics[DELAYS]++;
        }

        private void advance(int agent, int direction) {
            shift(agent, direction);
            state.waits[agent] = 0;
            state.statistics[MOVES]++;
        }

        private void shift(int agent, int direction) {
            int next = neighborOf(state.places[agent], direction);
            if (next != NONE) {
                state.places[agent] = next;
                state.headings[agent] = direction;
                state.passes[next]++;
            }
        }

        /**
         * Answers whether the agent could be pushed. Priorities do not change in a tick, so an agent
         * with a lower one has its turn still before it.
         */
        private boolean pushAside(int agent, int pusher) {
            if (state.priorities[agent] >= state.priorities[pusher] || isIn(pushed, agent)) {
                return false;
            }
            Field field = fields.toward(targetOf(agent), state.costs);
            int direction = bestFreeDirection(state.places[agent], field, UNREACHED);
            if (direction == NONE) {
                return false;
            }
            shift(agent, direction);
            pushed |= 1 << agent;
            state.statistics[PUSHES]++;
            return true;
        }

        private int detourOf(int agent, Field field) {
            if (state.waits[agent] < state.patience) {
                return NONE;
            }
            int here = state.places[agent];
            return bestFreeDirection(here, field, field.distanceOf(here) + DETOUR);
        }

        /** The direction of the free neighbor with the least distance, if this is at most a limit. */
        private int bestFreeDirection(int cell, Field field, int limit) {
            int best = NONE;
            int least = limit + 1;
            for (int direction = 0; direction < DIRECTIONS; direction++) {
                int next = neighborOf(cell, direction);
                if (isFree(next)) {
                    int distance = field.distanceOf(next);
                    distance = distance == NONE ? UNREACHED : distance;
                    if (distance < least) {
                        best = direction;
                        least = distance;
                    }
                }
            }
            return best;
        }

        // ---- jams

        /** The jam whose lowest agent this one is, or the empty set. */
        int jamFrom(int agent, int stuck) {
            if (!isIn(stuck, agent)) {
                return 0;
            }
            int jam = 1 << agent;
            for (int round = 1; round < AGENTS; round++) {
                int grown = jam | neighborsOf(jam) & stuck;
                if (grown == jam) {
                    break;
                }
                jam = grown;
            }
            boolean isLowest = (jam & (1 << agent) - 1) == 0;
            return isLowest && Integer.bitCount(jam) >= SMALLEST_JAM ? jam : 0;
        }

        int jamNumber(int number) {
            int stuck = stuckOnes();
            int count = 0;
            for (int agent = 0; agent < AGENTS; agent++) {
                int jam = jamFrom(agent, stuck);
                if (jam != 0) {
                    if (count == number) {
                        return jam;
                    }
                    count++;
                }
            }
            return 0;
        }

        int sumOfWaits(int set) {
            int sum = 0;
            for (int agent = 0; agent < AGENTS; agent++) {
                if (isIn(set, agent)) {
                    sum += state.waits[agent];
                }
            }
            return sum;
        }

        int freeCellsAround(int set) {
            int count = 0;
            for (int cell = 0; cell < CELLS; cell++) {
                if (isFree(cell) && (agentsBeside(cell) & set) != 0) {
                    count++;
                }
            }
            return count;
        }

        private int neighborsOf(int set) {
            int neighbors = 0;
            for (int agent = 0; agent < AGENTS; agent++) {
                if (isIn(set, agent)) {
                    neighbors |= agentsBeside(state.places[agent]);
                }
            }
            return neighbors;
        }

        private int agentsBeside(int cell) {
            int set = 0;
            for (int direction = 0; direction < DIRECTIONS; direction++) {
                int agent = agentOn(neighborOf(cell, direction));
                if (agent != NONE) {
                    set |= 1 << agent;
                }
            }
            return set;
        }
    }

    /** The states before the latest changes, in a ring; each one is made when it is first needed. */
    private static final class History {
        final State[] states = new State[MAX_UNDO];
        int next;
        int count;

        void record(State state) {
            State before = states[next];
            if (before == null) {
                before = new State();
                states[next] = before;
            }
            before.copyFrom(state);
            next = (next + 1) % MAX_UNDO;
            count = Math.min(count + 1, MAX_UNDO);
        }

        void takeBack(State state) {
            int latest = (next + MAX_UNDO - 1) % MAX_UNDO;
            State before = states[latest];
            if (count > 0 && before != null) {
                state.copyFrom(before);
                next = latest;
                count--;
            }
        }

        void clear() {
            count = 0;
        }
    }

    /** The input buffer, and the costs that it was read as. */
    private static final class MapText {
        final char[] letters = new char[MAX_BUFFER];
        int length;
        final int[] costs = new int[CELLS];

        boolean isFull() {
            return length >= MAX_BUFFER;
        }

        int append(char letter) {
            if (!isFull()) {
                letters[length] = letter;
                length++;
            }
            return length;
        }

        void empty() {
            length = 0;
        }

        /** Reads the letters into the costs, NONE for a cell left out; the error position, or NONE. */
        int parse() {
            Arrays.fill(costs, NONE);
            int x = 0;
            int y = 0;
            for (int i = 0; i < length; i++) {
                if (letters[i] == '/') {
                    x = 0;
                    y++;
                    if (y >= ROWS) {
                        return i;
                    }
                } else {
                    int cell = cellAt(x, y);
                    int cost = costOf(letters[i]);
                    if (cell == NONE || cost == NONE) {
                        return i;
                    }
                    costs[cell] = cost;
                    x++;
                }
            }
            return NONE;
        }

        private static int costOf(char letter) {
            if (letter == '#') {
                return WALL;
            }
            return letter >= '1' && letter <= '9' ? letter - '0' : NONE;
        }
    }
}
