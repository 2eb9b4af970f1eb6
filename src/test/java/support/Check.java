import java.util.NoSuchElementException;

/** What the tests share: it counts and prints the answers that are not the ones due. */
final class Check {
    private static int checked = 0;
    private static int wrong = 0;
    private static String sentence = "";

    private Check() {
    }

    /** Makes the same new object, with the same calls behind it, whenever it is asked. */
    interface Scene {
        CrowdSimulator make();
    }

    interface Call {
        void on(CrowdSimulator crowd);
    }

    /** The words of the document that the answers after this are due by; they are told with each wrong one. */
    static void sentence(String words) {
        sentence = " by: " + words;
    }

    static void same(String what, long got, long due) {
        note(what, got == due, "" + got, "" + due);
    }

    static void same(String what, double got, double due) {
        note(what, got == due, "" + got, "" + due);
    }

    static void same(String what, String got, String due) {
        note(what, got.equals(due), got, due);
    }

    private static void note(String what, boolean isDue, String got, String due) {
        checked++;
        if (!isDue) {
            wrong++;
            System.out.println(what + " answered " + got + ", due is " + due + sentence);
        }
    }

    static void outOfBounds(String what, Scene scene, Call call) {
        refused(what, IndexOutOfBoundsException.class, scene, call);
    }

    static void badArgument(String what, Scene scene, Call call) {
        refused(what, IllegalArgumentException.class, scene, call);
    }

    static void badState(String what, Scene scene, Call call) {
        refused(what, IllegalStateException.class, scene, call);
    }

    static void noElement(String what, Scene scene, Call call) {
        refused(what, NoSuchElementException.class, scene, call);
    }

    static void arithmetic(String what, Scene scene, Call call) {
        refused(what, ArithmeticException.class, scene, call);
    }

    /** A second object of the scene tells what the first one must still be after the exception. */
    private static void refused(String what, Class<?> due, Scene scene, Call call) {
        CrowdSimulator crowd = scene.make();
        same(what, thrownBy(() -> call.on(crowd)), due.getSimpleName());
        same(what + " and then everything", allOf(crowd), allOf(scene.make()));
    }

    /** The very class that is thrown: what the machine throws by itself has another one. */
    static String thrownBy(Runnable call) {
        try {
            call.run();
            return "nothing";
        } catch (RuntimeException e) {
            return e.getClass().getSimpleName();
        }
    }

    static int feed(CrowdSimulator crowd, String text) {
        int length = 0;
        for (char letter : text.toCharArray()) {
            length = crowd.feed(letter);
        }
        return length;
    }

    static int read(CrowdSimulator crowd, String text) {
        feed(crowd, text);
        return crowd.readMap();
    }

    static CrowdSimulator onMap(String text) {
        CrowdSimulator crowd = new CrowdSimulator();
        read(crowd, text);
        return crowd;
    }

    static String mapOf(CrowdSimulator crowd) {
        StringBuilder text = new StringBuilder();
        for (int i = 0; i < 149; i++) {
            text.append(crowd.map(i));
        }
        return text.toString();
    }

    /** Column and row, as 100 times the row plus the column. */
    static int placeOf(CrowdSimulator crowd, int agent) {
        return 100 * crowd.agent(agent, 1) + crowd.agent(agent, 0);
    }

    static int targetOf(CrowdSimulator crowd, int agent) {
        return 100 * crowd.agent(agent, 8) + crowd.agent(agent, 7);
    }

    static void state(String what, CrowdSimulator crowd, int agent, int... placeHeadingWait) {
        same(what + ": place of " + agent, placeOf(crowd, agent), placeHeadingWait[0]);
        same(what + ": heading of " + agent, crowd.agent(agent, 4), placeHeadingWait[1]);
        same(what + ": wait of " + agent, crowd.agent(agent, 5), placeHeadingWait[2]);
    }

    /** Moves, pushes, moves of the third sort, and how often a wait increased. */
    static void counted(String what, CrowdSimulator crowd, int... due) {
        for (int i = 0; i < due.length; i++) {
            same(what + ": statistic " + (i + 1), crowd.statistic(i + 1), due[i]);
        }
    }

    /**
     * All that tells of what an object holds, in 300 calls and nine more for each agent, for the object
     * is then used up: the last ones are undo until there is nothing to take back, restore and readMap.
     */
    static String allOf(CrowdSimulator crowd) {
        StringBuilder all = new StringBuilder();
        for (int cell = 0; cell < 140; cell++) {
            all.append(crowd.cell(cell % 14, cell / 14, 0)).append(',');
            all.append(crowd.cell(cell % 14, cell / 14, 2)).append(' ');
        }
        for (int goal = 0; goal < 4; goal++) {
            addGoal(crowd, goal, all);
        }
        for (int what = 0; what < 5; what++) {
            all.append(" s").append(crowd.agents(what)).append(',').append(crowd.statistic(what));
        }
        addAgents(crowd, all);
        all.append(" j").append(crowd.jams()).append(" p").append(crowd.setPatience(0));
        int changes = crowd.undo();
        for (int change = 0; change < changes; change++) {
            all.append(" u").append(crowd.undo()).append(',').append(crowd.agents(0));
        }
        all.append(' ').append(thrownBy(() -> crowd.restore())).append(crowd.agents(0));
        addBuffer(crowd, all);
        return all.toString();
    }

    private static void addBuffer(CrowdSimulator crowd, StringBuilder all) {
        all.append(" b");
        String full = thrownBy(() -> all.append(crowd.feed('1')));
        String refused = thrownBy(() -> all.append(',').append(crowd.readMap()));
        all.append(full).append(refused);
    }

    private static void addGoal(CrowdSimulator crowd, int goal, StringBuilder all) {
        all.append(" g").append(goal);
        if (thrownBy(() -> crowd.steps(goal, 0, 0)).equals("nothing")) {
            all.append(crowd.steps(goal, 0, 0)).append(',').append(crowd.steps(goal, 13, 0));
        }
    }

    private static void addAgents(CrowdSimulator crowd, StringBuilder all) {
        int existing = crowd.agents(0);
        for (int agent = 0; agent < 16; agent++) {
            if ((existing & 1 << agent) != 0) {
                all.append(" a").append(agent);
                for (int what = 0; what < 9; what++) {
                    all.append(',').append(crowd.agent(agent, what));
                }
            }
        }
    }

    static void end(String name) {
        System.out.println(name + ": " + checked + " answers, " + wrong + " not as due");
        if (wrong != 0) {
            System.exit(1);
        }
    }
}
