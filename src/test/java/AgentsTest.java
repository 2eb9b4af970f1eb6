/** Promises 10 to 14: agents come, go and change, and what is told of them. */
public final class AgentsTest {
    private static final int LOW = Integer.MIN_VALUE;
    private static final int HIGH = Integer.MAX_VALUE;

    public static void main(String[] args) {
        add();
        addAfterRemove();
        addRefused();
        addToTheFull();
        remove();
        removeFromFormation();
        removeRefused();
        change();
        changeKeepsTheRest();
        changeRefused();
        agent();
        agentRefused();
        agents();
        Check.end("AgentsTest");
    }

    /** Agent 0 on (1, 1) with goal 2 on (4, 1), agent 1 on (3, 3) without a goal, a wall on (5, 5). */
    private static CrowdSimulator two() {
        CrowdSimulator crowd = new CrowdSimulator();
        crowd.setGoal(2, 4, 1);
        crowd.add(1, 1, 2, 5);
        crowd.add(3, 3, -1, 0);
        crowd.setCell(5, 5, 0);
        return crowd;
    }

    private static void add() {
        CrowdSimulator crowd = new CrowdSimulator();
        Check.same("10: the first", crowd.add(13, 9, 3, 9), 0);
        Check.same("10: the second", crowd.add(0, 0, -1, 0), 1);
        Check.same("10: the third, with a goal not set", crowd.add(7, 2, 0, 4), 2);
        int[] due = {7, 2, 0, 4, 0, 0, -1, -1, -1, -1, 1};
        for (int what = 0; what < due.length; what++) {
            Check.same("10: of a new agent " + what, crowd.agent(2, what), due[what]);
        }
        Check.same("10: its goal", crowd.agent(0, 2), 3);
        Check.same("10: no goal", crowd.agent(1, 2), -1);
        Check.same("10: its priority", crowd.agent(0, 3), 9);
        Check.same("10: no passes by adding", crowd.cell(7, 2, 2), 0);
        Check.same("10: no leaders", crowd.agents(3), 0);
        Check.same("10: no members", crowd.agents(4), 0);
        crowd.setGoal(1, 3, 3);
        Check.same("10: on a goal", crowd.add(3, 3, 1, 0), 3);
    }

    private static void addAfterRemove() {
        CrowdSimulator crowd = Scenes.formations();
        crowd.setGoal(0, 13, 9);
        crowd.change(1, true, 0);
        crowd.leave(1);
        crowd.tick(2);
        crowd.setPatience(9);
        crowd.remove(1);
        crowd.remove(3);
        Check.same("10: the lowest number", crowd.add(11, 1, -1, 2), 1);
        Check.same("10: its heading", crowd.agent(1, 4), 0);
        Check.same("10: the next lowest number", crowd.add(11, 2, -1, 2), 3);
        Check.same("10: the next unused", crowd.add(11, 3, -1, 2), 5);
        Check.same("10: no member again", crowd.agents(4), 4);
        Check.same("10: no leader again", crowd.agents(3), 1);
        CrowdSimulator shut = Check.onMap("1#1/##1");
        shut.setGoal(0, 0, 0);
        shut.add(5, 5, 0, 0);
        shut.add(6, 6, -1, 0);
        shut.join(0, 1, 1, 1);
        shut.leave(0);
        shut.tick(4);
        shut.remove(0);
        Check.same("10: the number again", shut.add(5, 5, 0, 0), 0);
        Check.same("10: the wait is new", shut.agent(0, 5), 0);
        Check.same("10: its leader", shut.agent(0, 6), -1);
    }

    private static void addRefused() {
        for (int[] cell : new int[][] {{-1, 0}, {14, 0}, {0, -1}, {0, 10}, {LOW, 0}, {0, HIGH}}) {
            Check.outOfBounds("10: no cell", AgentsTest::two, c -> c.add(cell[0], cell[1], 0, 0));
            Check.outOfBounds("10: no cell, bad goal", AgentsTest::two, c -> c.add(cell[0], cell[1], 4, 0));
        }
        for (int goal : new int[] {-2, 4, LOW, HIGH}) {
            Check.badArgument("10: goal " + goal, AgentsTest::two, c -> c.add(0, 0, goal, 0));
            Check.badArgument("10: goal and wall " + goal, AgentsTest::two, c -> c.add(5, 5, goal, 0));
        }
        for (int priority : new int[] {-1, 10, LOW, HIGH}) {
            Check.badArgument("10: priority " + priority, AgentsTest::two, c -> c.add(0, 0, 0, priority));
            Check.badArgument("10: priority and agent " + priority, AgentsTest::two, c -> c.add(1, 1, 0, priority));
        }
        Check.badState("10: on a wall", AgentsTest::two, c -> c.add(5, 5, 0, 0));
        Check.badState("10: on an agent", AgentsTest::two, c -> c.add(3, 3, 0, 0));
    }

    private static void addToTheFull() {
        Check.badState("10: a seventeenth", Scenes::full, c -> c.add(9, 8, 0, 0));
        Check.badArgument("10: a seventeenth with a bad goal", Scenes::full, c -> c.add(9, 8, 4, 0));
        CrowdSimulator crowd = Scenes.full();
        Check.same("10: sixteen", crowd.agents(0), 65535);
        crowd.remove(7);
        Check.same("10: the sixteenth again", crowd.add(9, 8, -1, 0), 7);
    }

    private static void remove() {
        CrowdSimulator crowd = Scenes.full();
        Check.same("11: of sixteen", crowd.remove(15), 15);
        Check.same("11: of fifteen", crowd.remove(0), 14);
        Check.same("11: who is left", crowd.agents(0), 32766);
        Check.same("11: the cell", crowd.cell(0, 0, 1), -1);
        Check.same("11: an other's number stays", crowd.cell(1, 0, 1), 1);
        CrowdSimulator one = new CrowdSimulator();
        one.add(0, 0, 0, 0);
        Check.same("11: the last", one.remove(0), 0);
        Check.same("11: the cell may become a wall", one.setCell(0, 0, 0), 1);
    }

    private static void removeFromFormation() {
        CrowdSimulator crowd = Scenes.formations();
        crowd.remove(1);
        Check.same("11: one of two members", crowd.agents(3), 9);
        crowd.remove(2);
        Check.same("11: the only member", crowd.agents(3), 8);
        crowd.remove(3);
        Check.same("11: the leader", crowd.agents(3), 0);
        Check.same("11: its member", crowd.agents(4), 0);
        Check.same("11: its member's leader", crowd.agent(4, 6), -1);
        Check.same("11: its member's target", crowd.agent(4, 7), -1);
        CrowdSimulator other = Scenes.formations();
        other.remove(0);
        Check.same("11: the other formation stays", other.agents(3), 8);
        Check.same("11: the other member stays", other.agents(4), 16);
        Check.same("11: a leader's members may lead", other.join(4, 1, 1, 1), 1);
    }

    private static void removeRefused() {
        for (int agent : new int[] {-1, 2, 16, LOW, HIGH}) {
            Check.outOfBounds("11: agent " + agent, AgentsTest::two, c -> c.remove(agent));
        }
        Check.outOfBounds("11: removed before", () -> {
            CrowdSimulator crowd = two();
            crowd.remove(1);
            return crowd;
        }, c -> c.remove(1));
    }

    private static void change() {
        CrowdSimulator crowd = two();
        Check.same("12: the goal before", crowd.change(0, true, -1), 2);
        Check.same("12: no goal before", crowd.change(0, true, 3), -1);
        Check.same("12: the goal now", crowd.agent(0, 2), 3);
        Check.same("12: the priority stays", crowd.agent(0, 3), 5);
        Check.same("12: the priority before", crowd.change(0, false, 9), 5);
        Check.same("12: the highest before", crowd.change(0, false, 0), 9);
        Check.same("12: the priority now", crowd.agent(0, 3), 0);
        Check.same("12: the goal stays", crowd.agent(0, 2), 3);
        Check.same("12: the other's goal", crowd.agent(1, 2), -1);
        crowd.setGoal(3, 6, 6);
        Check.same("12: the new goal is the target", Check.targetOf(crowd, 0), 606);
        crowd.join(0, 1, 1, 0);
        Check.same("12: a member's goal", crowd.change(0, true, 2), 3);
        Check.same("12: is not its target", Check.targetOf(crowd, 0), 304);
    }

    private static void changeKeepsTheRest() {
        CrowdSimulator crowd = Check.onMap("11111/#####");
        crowd.add(0, 0, 0, 5);
        crowd.add(2, 0, -1, 5);
        crowd.setGoal(0, 4, 0);
        crowd.tick(3);
        Check.same("12: heading before", crowd.agent(0, 4), 1);
        Check.same("12: wait before", crowd.agent(0, 5), 2);
        crowd.change(0, true, 1);
        crowd.change(0, false, 7);
        Check.same("12: heading after", crowd.agent(0, 4), 1);
        Check.same("12: wait after", crowd.agent(0, 5), 2);
        Check.same("12: still stuck, though settled", crowd.agents(2) * 100 + crowd.agents(1), 103);
    }

    private static void changeRefused() {
        for (int agent : new int[] {-1, 2, 16, LOW, HIGH}) {
            Check.outOfBounds("12: agent " + agent, AgentsTest::two, c -> c.change(agent, true, 0));
            Check.outOfBounds("12: agent and value " + agent, AgentsTest::two, c -> c.change(agent, false, 10));
        }
        for (int value : new int[] {-2, 4, 5, LOW, HIGH}) {
            Check.badArgument("12: goal " + value, AgentsTest::two, c -> c.change(0, true, value));
        }
        for (int value : new int[] {-1, 10, LOW, HIGH}) {
            Check.badArgument("12: priority " + value, AgentsTest::two, c -> c.change(1, false, value));
        }
    }

    private static void agent() {
        CrowdSimulator crowd = two();
        crowd.add(4, 4, 1, 9);
        crowd.setGoal(1, 0, 9);
        crowd.setCell(0, 8, 0);
        crowd.setCell(1, 9, 0);
        crowd.join(1, 0, -1, 1);
        int[][] due = {{1, 1, 2, 5, 0, 0, -1, 4, 1, 3, 0}, {3, 3, -1, 0, 0, 0, 0, 0, 2, 4, 0},
            {4, 4, 1, 9, 0, 0, -1, 0, 9, -1, 0}};
        told("13: before ticks", crowd, due);
        crowd.tick(1);
        int[][] then = {{2, 1, 2, 5, 1, 0, -1, 4, 1, 2, 0}, {3, 2, -1, 0, 0, 0, 0, 1, 0, 4, 0},
            {4, 4, 1, 9, 0, 1, -1, 0, 9, -1, 0}};
        told("13: after a tick", crowd, then);
        crowd.tick(2);
        Check.same("13: on its target", crowd.agent(0, 9), 0);
        Check.same("13: settled", crowd.agent(0, 10), 1);
        crowd.change(0, true, -1);
        Check.same("13: without a target", crowd.agent(0, 7) + crowd.agent(0, 8) + crowd.agent(0, 9), -3);
        Check.same("13: settled without a target", crowd.agent(0, 10), 1);
    }

    private static void told(String what, CrowdSimulator crowd, int[][] due) {
        for (int agent = 0; agent < due.length; agent++) {
            for (int number = 0; number < due[agent].length; number++) {
                Check.same(what + " " + agent + ", " + number, crowd.agent(agent, number), due[agent][number]);
            }
        }
    }

    private static void agentRefused() {
        for (int agent : new int[] {-1, 2, 16, LOW, HIGH}) {
            Check.outOfBounds("13: agent " + agent, AgentsTest::two, c -> c.agent(agent, 0));
            Check.outOfBounds("13: agent and what " + agent, AgentsTest::two, c -> c.agent(agent, 11));
        }
        for (int what : new int[] {-1, 11, LOW, HIGH}) {
            Check.badArgument("13: what " + what, AgentsTest::two, c -> c.agent(0, what));
        }
    }

    private static void agents() {
        CrowdSimulator crowd = Scenes.formations();
        crowd.add(13, 0, 0, 0);
        crowd.add(13, 1, 1, 0);
        crowd.remove(1);
        crowd.setGoal(0, 12, 5);
        crowd.setCell(12, 4, 0);
        crowd.setCell(12, 6, 0);
        crowd.setCell(11, 5, 0);
        crowd.setCell(13, 5, 0);
        int[] due = {1 + 4 + 8 + 16 + 32 + 64, 1 + 8 + 64, 0, 1 + 8, 4 + 16};
        for (int what = 0; what < due.length; what++) {
            Check.same("14: what " + what, crowd.agents(what), due[what]);
        }
        crowd.tick(1);
        Check.same("14: a wait of 1 is not stuck", crowd.agents(2), 0);
        crowd.tick(1);
        Check.same("14: a wait of 2 is stuck", crowd.agents(2), 32);
        for (int what : new int[] {-1, 5, LOW, HIGH}) {
            Check.badArgument("14: what " + what, AgentsTest::two, c -> c.agents(what));
        }
    }
}
