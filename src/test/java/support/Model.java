import java.util.ArrayDeque;
import java.util.ArrayList;
import java.util.Arrays;
import java.util.Deque;
import java.util.HashMap;
import java.util.List;
import java.util.Map;
import java.util.NoSuchElementException;
import java.util.TreeMap;
import java.util.TreeSet;

/**
 * The document once more, as slow and plain as can be and with the Java library, so that random
 * runs can be held against it. Nothing is kept: distances and jams are found anew at each question.
 */
final class Model {
    static final int[] EAST = {0, 1, 0, -1};
    static final int[] SOUTH = {-1, 0, 1, 0};
    static final int FAR = 1000000;

    record Cell(int x, int y) {
        boolean isInside() {
            return x >= 0 && x < 14 && y >= 0 && y < 10;
        }

        Cell beside(int direction) {
            return new Cell(x + EAST[direction], y + SOUTH[direction]);
        }
    }

    static final class Agent {
        Cell at;
        int goal;
        int priority;
        int heading;
        int wait;
        int leader = -1;
        int ox;
        int oy;

        Agent copy() {
            Agent copy = new Agent();
            copy.at = at;
            copy.goal = goal;
            copy.priority = priority;
            copy.heading = heading;
            copy.wait = wait;
            copy.leader = leader;
            copy.ox = ox;
            copy.oy = oy;
            return copy;
        }
    }

    static final class World {
        TreeMap<Cell, Integer> costs = new TreeMap<>(Model::inRows);
        TreeMap<Cell, Integer> passes = new TreeMap<>(Model::inRows);
        Cell[] goals = new Cell[4];
        TreeMap<Integer, Agent> agents = new TreeMap<>();
        int[] statistics = new int[5];
        int patience = 3;

        World copy() {
            World copy = new World();
            copy.costs.putAll(costs);
            copy.passes.putAll(passes);
            copy.goals = goals.clone();
            agents.forEach((number, agent) -> copy.agents.put(number, agent.copy()));
            copy.statistics = statistics.clone();
            copy.patience = patience;
            return copy;
        }
    }

    static int inRows(Cell a, Cell b) {
        return a.y() != b.y() ? Integer.compare(a.y(), b.y()) : Integer.compare(a.x(), b.x());
    }

    World world = new World();
    World saved = null;
    final Deque<World> past = new ArrayDeque<>();
    String buffer = "";

    Model() {
        for (int y = 0; y < 10; y++) {
            for (int x = 0; x < 14; x++) {
                world.costs.put(new Cell(x, y), 1);
                world.passes.put(new Cell(x, y), 0);
            }
        }
    }

    // ---- questions about a world

    static boolean isOpen(World w, Cell c) {
        return c.isInside() && w.costs.get(c) != 0;
    }

    static int agentOn(World w, Cell c) {
        for (int number : w.agents.keySet()) {
            if (w.agents.get(number).at.equals(c)) {
                return number;
            }
        }
        return -1;
    }

    static int goalOn(World w, Cell c) {
        return Arrays.asList(w.goals).indexOf(c);
    }

    /** A cell that has got nearer tells its neighbors so, until no distance gets less. */
    static Map<Cell, Integer> distancesFrom(World w, Cell target) {
        Map<Cell, Integer> distances = new HashMap<>();
        Deque<Cell> nearer = new ArrayDeque<>();
        if (target != null) {
            distances.put(target, 0);
            nearer.add(target);
        }
        while (!nearer.isEmpty()) {
            Cell n = nearer.remove();
            int over = distances.get(n) + w.costs.get(n);
            for (int d = 0; d < 4; d++) {
                Cell c = n.beside(d);
                if (isOpen(w, c) && over < distances.getOrDefault(c, FAR)) {
                    distances.put(c, over);
                    nearer.add(c);
                }
            }
        }
        return distances;
    }

    static int flowOf(World w, Map<Cell, Integer> distances, Cell c) {
        int own = distances.getOrDefault(c, 0);
        for (int d = 0; own != 0 && d < 4; d++) {
            Cell n = c.beside(d);
            if (distances.containsKey(n) && distances.get(n) + w.costs.get(n) == own) {
                return d;
            }
        }
        return -1;
    }

    static Cell targetOf(World w, Agent a) {
        if (a.leader != -1) {
            Agent leader = w.agents.get(a.leader);
            int[][] turned = {{a.ox, a.oy}, {-a.oy, a.ox}, {-a.ox, -a.oy}, {a.oy, -a.ox}};
            int[] by = turned[leader.heading];
            Cell slot = new Cell(leader.at.x() + by[0], leader.at.y() + by[1]);
            return isOpen(w, slot) ? slot : leader.at;
        }
        return a.goal == -1 ? null : w.goals[a.goal];
    }

    static boolean isSettled(World w, Agent a) {
        Cell target = targetOf(w, a);
        return target == null || target.equals(a.at);
    }

    static TreeSet<Integer> membersOf(World w, int leader) {
        TreeSet<Integer> members = new TreeSet<>();
        w.agents.forEach((number, a) -> {
            if (a.leader == leader) {
                members.add(number);
            }
        });
        return members;
    }

    static int bits(Iterable<Integer> numbers) {
        int set = 0;
        for (int number : numbers) {
            set |= 1 << number;
        }
        return set;
    }

    static TreeSet<Integer> stuck(World w) {
        TreeSet<Integer> stuck = new TreeSet<>();
        w.agents.forEach((number, a) -> {
            if (a.wait >= 2) {
                stuck.add(number);
            }
        });
        return stuck;
    }

    static List<TreeSet<Integer>> jamsOf(World w) {
        List<TreeSet<Integer>> jams = new ArrayList<>();
        TreeSet<Integer> left = stuck(w);
        while (!left.isEmpty()) {
            TreeSet<Integer> jam = new TreeSet<>();
            Deque<Integer> open = new ArrayDeque<>(List.of(left.first()));
            while (!open.isEmpty()) {
                int number = open.pop();
                if (left.remove(number)) {
                    jam.add(number);
                    for (int d = 0; d < 4; d++) {
                        open.push(agentOn(w, w.agents.get(number).at.beside(d)));
                    }
                }
            }
            if (jam.size() >= 2) {
                jams.add(jam);
            }
        }
        return jams;
    }

    // ---- ticks

    static void tickOnce(World w) {
        w.statistics[0]++;
        List<Integer> order = new ArrayList<>(w.agents.keySet());
        order.sort((a, b) -> w.agents.get(b).priority - w.agents.get(a).priority);
        TreeSet<Integer> pushed = new TreeSet<>();
        TreeSet<Integer> done = new TreeSet<>();
        for (int number : order) {
            turn(w, number, pushed, done);
            done.add(number);
        }
    }

    static void turn(World w, int number, TreeSet<Integer> pushed, TreeSet<Integer> done) {
        Agent a = w.agents.get(number);
        if (pushed.contains(number) || isSettled(w, a)) {
            a.wait = isSettled(w, a) ? 0 : a.wait;
            return;
        }
        Map<Cell, Integer> distances = distancesFrom(w, targetOf(w, a));
        if (distances.containsKey(a.at)) {
            int direction = flowOf(w, distances, a.at);
            int other = agentOn(w, a.at.beside(direction));
            if (other != -1 && w.agents.get(other).priority < a.priority
                    && !pushed.contains(other) && !done.contains(other)) {
                push(w, other, pushed);
            }
            if (agentOn(w, a.at.beside(direction)) == -1) {
                ownMove(w, a, direction);
                return;
            }
            int least = distances.get(a.at) + 2;
            int detour = -1;
            for (int d = 3; d >= 0; d--) {
                Cell n = a.at.beside(d);
                if (isOpen(w, n) && agentOn(w, n) == -1 && distances.getOrDefault(n, FAR) <= least) {
                    least = distances.get(n);
                    detour = d;
                }
            }
            if (a.wait >= w.patience && detour != -1) {
                ownMove(w, a, detour);
                w.statistics[3]++;
                return;
            }
        }
        a.wait++;
        w.statistics[4]++;
    }

    static void push(World w, int number, TreeSet<Integer> pushed) {
        Agent a = w.agents.get(number);
        Map<Cell, Integer> distances = distancesFrom(w, targetOf(w, a));
        int least = 9999;
        int direction = -1;
        for (int d = 3; d >= 0; d--) {
            Cell n = a.at.beside(d);
            if (isOpen(w, n) && agentOn(w, n) == -1 && distances.getOrDefault(n, 9999) <= least) {
                least = distances.getOrDefault(n, 9999);
                direction = d;
            }
        }
        if (direction != -1) {
            move(w, a, direction);
            pushed.add(number);
            w.statistics[2]++;
        }
    }

    static void ownMove(World w, Agent a, int direction) {
        move(w, a, direction);
        a.wait = 0;
        w.statistics[1]++;
    }

    static void move(World w, Agent a, int direction) {
        a.at = a.at.beside(direction);
        a.heading = direction;
        w.passes.merge(a.at, 1, Integer::sum);
    }

    // ---- the face

    private void remember() {
        past.push(world.copy());
        if (past.size() > 8) {
            past.removeLast();
        }
    }

    private static void bounds(boolean isGood) {
        if (!isGood) {
            throw new IndexOutOfBoundsException();
        }
    }

    private static void argument(boolean isGood) {
        if (!isGood) {
            throw new IllegalArgumentException();
        }
    }

    private static void allowed(boolean isGood) {
        if (!isGood) {
            throw new IllegalStateException();
        }
    }

    private static void there(boolean isGood) {
        if (!isGood) {
            throw new NoSuchElementException();
        }
    }

    private Cell cellOf(int x, int y) {
        Cell c = new Cell(x, y);
        bounds(c.isInside());
        return c;
    }

    private Agent agentOf(int agent) {
        bounds(world.agents.containsKey(agent));
        return world.agents.get(agent);
    }

    int setCell(int x, int y, int cost) {
        Cell c = cellOf(x, y);
        argument(cost >= 0 && cost <= 9);
        allowed(cost != 0 || agentOn(world, c) == -1 && goalOn(world, c) == -1);
        remember();
        return world.costs.put(c, cost);
    }

    int cell(int x, int y, int what) {
        Cell c = cellOf(x, y);
        argument(what >= 0 && what <= 3);
        int[] numbers = {world.costs.get(c), agentOn(world, c), world.passes.get(c), goalOn(world, c)};
        return numbers[what];
    }

    int setGoal(int goal, int x, int y) {
        bounds(goal >= 0 && goal <= 3);
        Cell c = cellOf(x, y);
        allowed(isOpen(world, c));
        remember();
        world.goals[goal] = c;
        return distancesFrom(world, c).size();
    }

    int dropGoal(int goal) {
        bounds(goal >= 0 && goal <= 3);
        there(world.goals[goal] != null);
        remember();
        world.goals[goal] = null;
        return (int) world.agents.values().stream().filter(a -> a.goal == goal).count();
    }

    private Map<Cell, Integer> fieldOf(int goal, int x, int y) {
        bounds(goal >= 0 && goal <= 3);
        cellOf(x, y);
        there(world.goals[goal] != null);
        return distancesFrom(world, world.goals[goal]);
    }

    int distance(int goal, int x, int y) {
        return fieldOf(goal, x, y).getOrDefault(new Cell(x, y), -1);
    }

    int flow(int goal, int x, int y) {
        return flowOf(world, fieldOf(goal, x, y), new Cell(x, y));
    }

    int steps(int goal, int x, int y) {
        Map<Cell, Integer> distances = fieldOf(goal, x, y);
        Cell c = new Cell(x, y);
        if (!distances.containsKey(c)) {
            return -1;
        }
        int steps = 0;
        while (!c.equals(world.goals[goal])) {
            c = c.beside(flowOf(world, distances, c));
            steps++;
        }
        return steps;
    }

    int setPatience(int patience) {
        argument(patience >= 0 && patience <= 9);
        remember();
        int previous = world.patience;
        world.patience = patience;
        return previous;
    }

    int add(int x, int y, int goal, int priority) {
        Cell c = cellOf(x, y);
        argument(goal >= -1 && goal <= 3 && priority >= 0 && priority <= 9);
        allowed(isOpen(world, c) && agentOn(world, c) == -1 && world.agents.size() < 16);
        remember();
        int number = 0;
        while (world.agents.containsKey(number)) {
            number++;
        }
        Agent a = new Agent();
        a.at = c;
        a.goal = goal;
        a.priority = priority;
        world.agents.put(number, a);
        return number;
    }

    int remove(int agent) {
        agentOf(agent);
        remember();
        for (int member : membersOf(world, agent)) {
            world.agents.get(member).leader = -1;
        }
        world.agents.remove(agent);
        return world.agents.size();
    }

    int change(int agent, boolean isGoal, int value) {
        agentOf(agent);
        argument(isGoal ? value >= -1 && value <= 3 : value >= 0 && value <= 9);
        remember();
        Agent a = agentOf(agent);
        int previous = isGoal ? a.goal : a.priority;
        if (isGoal) {
            a.goal = value;
        } else {
            a.priority = value;
        }
        return previous;
    }

    int agent(int agent, int what) {
        Agent a = agentOf(agent);
        argument(what >= 0 && what <= 10);
        Cell target = targetOf(world, a);
        int[] numbers = {a.at.x(), a.at.y(), a.goal, a.priority, a.heading, a.wait, a.leader,
            target == null ? -1 : target.x(), target == null ? -1 : target.y(),
            distancesFrom(world, target).getOrDefault(a.at, -1), isSettled(world, a) ? 1 : 0};
        return numbers[what];
    }

    int agents(int what) {
        argument(what >= 0 && what <= 4);
        TreeSet<Integer> set = new TreeSet<>();
        world.agents.forEach((number, a) -> {
            boolean[] is = {true, isSettled(world, a), a.wait >= 2,
                !membersOf(world, number).isEmpty(), a.leader != -1};
            if (is[what]) {
                set.add(number);
            }
        });
        return bits(set);
    }

    int join(int agent, int leader, int ox, int oy) {
        agentOf(agent);
        agentOf(leader);
        argument(agent != leader && Math.abs((long) ox) <= 3 && Math.abs((long) oy) <= 3);
        argument(ox != 0 || oy != 0);
        allowed(membersOf(world, agent).isEmpty() && agentOf(leader).leader == -1);
        remember();
        Agent a = agentOf(agent);
        a.leader = leader;
        a.ox = ox;
        a.oy = oy;
        return membersOf(world, leader).size();
    }

    int leave(int agent) {
        allowed(agentOf(agent).leader != -1);
        remember();
        int previous = agentOf(agent).leader;
        agentOf(agent).leader = -1;
        return previous;
    }

    int disorder(int leader) {
        agentOf(leader);
        allowed(!membersOf(world, leader).isEmpty());
        int sum = 0;
        for (int member : membersOf(world, leader)) {
            Agent a = world.agents.get(member);
            Cell target = targetOf(world, a);
            sum += Math.abs(a.at.x() - target.x()) + Math.abs(a.at.y() - target.y());
        }
        return sum;
    }

    int tick(int ticks) {
        argument(ticks >= 1 && ticks <= 50);
        remember();
        for (int i = 0; i < ticks; i++) {
            tickOnce(world);
        }
        return world.statistics[0];
    }

    int statistic(int what) {
        argument(what >= 0 && what <= 4);
        return world.statistics[what];
    }

    int forecast(int agent) {
        agentOf(agent);
        World future = world.copy();
        int ticks = 0;
        while (!isSettled(future, future.agents.get(agent))) {
            there(ticks < 100);
            tickOnce(future);
            ticks++;
        }
        return ticks;
    }

    int bottleneck() {
        Cell most = null;
        for (Cell c : world.passes.keySet()) {
            if (world.passes.get(c) > (most == null ? 0 : world.passes.get(most))) {
                most = c;
            }
        }
        there(most != null);
        return 100 * most.y() + most.x();
    }

    int jams() {
        return jamsOf(world).size();
    }

    int jam(int jam, int what) {
        List<TreeSet<Integer>> jams = jamsOf(world);
        bounds(jam >= 0 && jam < jams.size());
        argument(what >= 0 && what <= 3);
        TreeSet<Integer> members = jams.get(jam);
        TreeSet<Cell> free = new TreeSet<>(Model::inRows);
        int waits = 0;
        for (int number : members) {
            waits += world.agents.get(number).wait;
            for (int d = 0; d < 4; d++) {
                Cell n = world.agents.get(number).at.beside(d);
                if (isOpen(world, n) && agentOn(world, n) == -1) {
                    free.add(n);
                }
            }
        }
        int[] numbers = {bits(members), members.size(), waits, free.size()};
        return numbers[what];
    }

    double meanDistance() {
        List<Integer> distances = new ArrayList<>();
        for (Agent a : world.agents.values()) {
            int distance = distancesFrom(world, targetOf(world, a)).getOrDefault(a.at, -1);
            if (distance >= 0) {
                distances.add(distance);
            }
        }
        if (distances.isEmpty()) {
            throw new ArithmeticException();
        }
        return (double) distances.stream().mapToInt(d -> d).sum() / distances.size();
    }

    float density() {
        int open = (int) world.costs.values().stream().filter(cost -> cost != 0).count();
        if (open == 0) {
            throw new ArithmeticException();
        }
        return (float) world.agents.size() / (float) open;
    }

    int feed(char letter) {
        allowed(buffer.length() < 150);
        buffer += letter;
        return buffer.length();
    }

    /** A text is held to its form by a pattern: the error is behind its longest good beginning. */
    int readMap() {
        String text = buffer;
        buffer = "";
        int good = text.length();
        while (!text.substring(0, good).matches("[#1-9]{0,14}(/[#1-9]{0,14}){0,9}")) {
            good--;
        }
        if (good < text.length()) {
            return -100 - good;
        }
        World read = world.copy();
        String[] rows = text.split("/", -1);
        int count = 0;
        for (int y = 0; y < rows.length; y++) {
            for (int x = 0; x < rows[y].length(); x++) {
                Cell c = new Cell(x, y);
                char letter = rows[y].charAt(x);
                allowed(letter != '#' || agentOn(world, c) == -1 && goalOn(world, c) == -1);
                read.costs.put(c, letter == '#' ? 0 : letter - '0');
                count++;
            }
        }
        remember();
        world = read;
        return count;
    }

    char map(int i) {
        StringBuilder text = new StringBuilder();
        for (int y = 0; y < 10; y++) {
            text.append(y == 0 ? "" : "/");
            for (int x = 0; x < 14; x++) {
                int cost = world.costs.get(new Cell(x, y));
                text.append(cost == 0 ? "#" : "" + cost);
            }
        }
        bounds(i >= 0 && i < text.length());
        return text.charAt(i);
    }

    int undo() {
        allowed(!past.isEmpty());
        world = past.pop();
        return past.size();
    }

    int save() {
        saved = world.copy();
        return world.agents.size();
    }

    int restore() {
        allowed(saved != null);
        world = saved.copy();
        past.clear();
        return world.agents.size();
    }
}
