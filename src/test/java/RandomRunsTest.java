import java.util.Arrays;

/** Runs of calls on an object and on the model, whose answers must be the same. */
public final class RandomRunsTest {
    private static final int RUNS = 150;
    /** With the letters of a last map that are fed still less than the 512 that are promised. */
    private static final int CALLS = 440;
    private static final int READ_MAP = 24;
    private static final String[] NAMES = {"setCell", "cell", "setGoal", "dropGoal", "distance", "flow", "steps",
        "setPatience", "add", "remove", "change", "agent", "agents", "join", "leave", "disorder", "tick", "statistic",
        "forecast", "bottleneck", "jams", "jam", "meanDistance", "density", "readMap", "map", "undo", "save", "restore"};
    /** How often each kind is called; what empties the grid is rare. */
    private static final int[] WEIGHTS = {6, 8, 5, 1, 6, 6, 6, 2, 10, 2, 4, 24, 10, 8, 2, 5, 22, 8, 3, 3, 4, 8, 4, 2,
        3, 3, 4, 2, 1};

    public static void main(String[] args) {
        for (int run = 0; run < RUNS; run++) {
            playRun(run);
        }
        Check.end("RandomRunsTest");
    }

    private static void playRun(int run) {
        Dice dice = new Dice(run);
        CrowdSimulator crowd = new CrowdSimulator();
        Model model = new Model();
        int calls = 0;
        while (calls < CALLS) {
            int kind = calls == 0 ? READ_MAP : kindOf(dice, calls);
            int[] a = arguments(dice, kind, run);
            String text = kind == READ_MAP ? mapText(dice, run) : "";
            calls += 1 + text.length();
            feed(crowd, model, text);
            String what = "run " + run + ", call " + calls + ": " + NAMES[kind] + Arrays.toString(a) + text;
            Check.same(what, answerOrThrown(() -> answerOf(crowd, kind, a)), answerOrThrown(() -> answerOf(model, kind, a)));
        }
    }

    private static void feed(CrowdSimulator crowd, Model model, String text) {
        for (char letter : text.toCharArray()) {
            Check.same("feed", crowd.feed(letter), model.feed(letter));
        }
    }

    private interface Question {
        String ask();
    }

    private static String answerOrThrown(Question question) {
        StringBuilder answer = new StringBuilder();
        String thrown = Check.thrownBy(() -> answer.append(question.ask()));
        return thrown.equals("nothing") ? answer.toString() : thrown;
    }

    /** The first calls are mostly such as fill the grid. */
    private static int kindOf(Dice dice, int calls) {
        if (calls < 90 && dice.roll(3) > 0) {
            return new int[] {2, 8, 8, 8, 13}[dice.roll(5)];
        }
        int sum = 0;
        for (int weight : WEIGHTS) {
            sum += weight;
        }
        int rest = dice.roll(sum);
        int kind = 0;
        while (rest >= WEIGHTS[kind]) {
            rest -= WEIGHTS[kind];
            kind++;
        }
        return kind;
    }

    private static int[] arguments(Dice dice, int kind, int run) {
        int x = dice.isIn(60) ? dice.between(-1, 14) : dice.roll(run % 3 == 0 ? 14 : 5 + run % 5);
        int y = dice.isIn(60) ? dice.between(-1, 10) : dice.roll(run % 3 == 0 ? 10 : 2 + run % 4);
        int goal = dice.isIn(60) ? dice.between(-2, 4) : dice.roll(1 + run % 4);
        int agent = dice.isIn(60) ? dice.between(-1, 16) : dice.roll(10);
        boolean isOdd = dice.isIn(40);
        switch (kind) {
            case 0:
                return new int[] {x, y, dice.isIn(3) ? 0 : dice.between(1, isOdd ? 10 : 9)};
            case 1:
                return new int[] {x, y, dice.between(0, isOdd ? 4 : 3)};
            case 2: case 3: case 4: case 5: case 6:
                return new int[] {goal, x, y};
            case 7:
                return new int[] {dice.between(-1, dice.isIn(2) ? 3 : 10)};
            case 8:
                return new int[] {x, y, dice.isIn(6) ? -1 : goal, isOdd ? dice.between(-1, 10) : dice.between(0, run % 10)};
            case 10:
                return new int[] {agent, dice.roll(2), dice.between(-1, dice.isIn(3) ? 10 : 3)};
            case 11:
                return new int[] {agent, isOdd ? dice.between(-1, 11) : dice.between(0, 10)};
            case 12: case 17:
                return new int[] {dice.between(-1, 5)};
            case 13:
                return new int[] {agent, dice.roll(run % 2 == 0 ? 10 : 3), dice.between(-3, 3), dice.between(-3, isOdd ? 4 : 3)};
            case 16:
                return new int[] {dice.isIn(8) ? dice.between(0, 51) : dice.between(1, 3)};
            case 21:
                return new int[] {dice.between(-1, 2), dice.between(0, 3)};
            case 25:
                return new int[] {dice.between(-1, 149)};
            default:
                return new int[] {agent};
        }
    }

    /** Open ground, rooms with walls, or narrow ways; now and then with a letter that is an error. */
    private static String mapText(Dice dice, int run) {
        StringBuilder text = new StringBuilder();
        int rows = run % 3 == 0 ? dice.between(1, 4) : 2 + run % 4 + 1;
        int width = 5 + run % 5 + 1;
        for (int y = 0; y < rows; y++) {
            for (int x = 0; x < width; x++) {
                boolean isEdge = run % 3 != 0 && (y == rows - 1 || x == width - 1);
                boolean isWall = isEdge || dice.isIn(3 + run % 7);
                int cost = dice.isIn(4) ? dice.between(1, 9) : 1;
                text.append(isWall ? '#' : (char) ('0' + cost));
            }
            text.append(y < rows - 1 ? "/" : dice.isIn(30) ? "0" : "");
        }
        return text.toString();
    }

    private static String answerOf(CrowdSimulator c, int kind, int[] a) {
        switch (kind) {
            case 0:
                return "" + c.setCell(a[0], a[1], a[2]);
            case 1:
                return "" + c.cell(a[0], a[1], a[2]);
            case 2:
                return "" + c.setGoal(a[0], a[1], a[2]);
            case 3:
                return "" + c.dropGoal(a[0]);
            case 4:
                return "" + c.distance(a[0], a[1], a[2]);
            case 5:
                return "" + c.flow(a[0], a[1], a[2]);
            case 6:
                return "" + c.steps(a[0], a[1], a[2]);
            case 7:
                return "" + c.setPatience(a[0]);
            case 8:
                return "" + c.add(a[0], a[1], a[2], a[3]);
            case 9:
                return "" + c.remove(a[0]);
            case 10:
                return "" + c.change(a[0], a[1] == 1, a[2]);
            case 11:
                return "" + c.agent(a[0], a[1]);
            case 12:
                return "" + c.agents(a[0]);
            case 13:
                return "" + c.join(a[0], a[1], a[2], a[3]);
            case 14:
                return "" + c.leave(a[0]);
            case 15:
                return "" + c.disorder(a[0]);
            case 16:
                return "" + c.tick(a[0]);
            case 17:
                return "" + c.statistic(a[0]);
            case 18:
                return "" + c.forecast(a[0]);
            case 19:
                return "" + c.bottleneck();
            case 20:
                return "" + c.jams();
            case 21:
                return "" + c.jam(a[0], a[1]);
            case 22:
                return "" + c.meanDistance();
            case 23:
                return "" + c.density();
            case 24:
                return "" + c.readMap();
            case 25:
                return "" + c.map(a[0]);
            case 26:
                return "" + c.undo();
            case 27:
                return "" + c.save();
            case 28:
                return "" + c.restore();
            default:
                return "no such kind";
        }
    }

    private static String answerOf(Model c, int kind, int[] a) {
        switch (kind) {
            case 0:
                return "" + c.setCell(a[0], a[1], a[2]);
            case 1:
                return "" + c.cell(a[0], a[1], a[2]);
            case 2:
                return "" + c.setGoal(a[0], a[1], a[2]);
            case 3:
                return "" + c.dropGoal(a[0]);
            case 4:
                return "" + c.distance(a[0], a[1], a[2]);
            case 5:
                return "" + c.flow(a[0], a[1], a[2]);
            case 6:
                return "" + c.steps(a[0], a[1], a[2]);
            case 7:
                return "" + c.setPatience(a[0]);
            case 8:
                return "" + c.add(a[0], a[1], a[2], a[3]);
            case 9:
                return "" + c.remove(a[0]);
            case 10:
                return "" + c.change(a[0], a[1] == 1, a[2]);
            case 11:
                return "" + c.agent(a[0], a[1]);
            case 12:
                return "" + c.agents(a[0]);
            case 13:
                return "" + c.join(a[0], a[1], a[2], a[3]);
            case 14:
                return "" + c.leave(a[0]);
            case 15:
                return "" + c.disorder(a[0]);
            case 16:
                return "" + c.tick(a[0]);
            case 17:
                return "" + c.statistic(a[0]);
            case 18:
                return "" + c.forecast(a[0]);
            case 19:
                return "" + c.bottleneck();
            case 20:
                return "" + c.jams();
            case 21:
                return "" + c.jam(a[0], a[1]);
            case 22:
                return "" + c.meanDistance();
            case 23:
                return "" + c.density();
            case 24:
                return "" + c.readMap();
            case 25:
                return "" + c.map(a[0]);
            case 26:
                return "" + c.undo();
            case 27:
                return "" + c.save();
            case 28:
                return "" + c.restore();
            default:
                return "no such kind";
        }
    }
}
