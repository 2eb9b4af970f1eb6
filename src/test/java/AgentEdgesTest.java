/** Promises 10 to 17: a test for each sentence that names a boundary case of the agents and the formations. */
public final class AgentEdgesTest {
    private static final int LOW = Integer.MIN_VALUE;
    private static final int HIGH = Integer.MAX_VALUE;

    private interface AgentCall {
        int on(CrowdSimulator crowd, int agent);
    }

    /** Each method with an agent, and with arguments after it that are good in lively() as well as bad ones. */
    private static final AgentCall[] AGENT_CALLS = {
        (c, a) -> c.remove(a), (c, a) -> c.change(a, true, 0), (c, a) -> c.change(a, true, 4),
        (c, a) -> c.change(a, false, 0), (c, a) -> c.change(a, false, -1), (c, a) -> c.agent(a, 0),
        (c, a) -> c.agent(a, 11), (c, a) -> c.join(a, 0, 1, 1), (c, a) -> c.join(a, 2, 1, 1),
        (c, a) -> c.join(a, 0, 4, 4), (c, a) -> c.join(1, a, 1, 1), (c, a) -> c.join(3, a, 1, 1),
        (c, a) -> c.join(1, a, 0, 0), (c, a) -> c.join(a, a, 0, 0), (c, a) -> c.leave(a), (c, a) -> c.disorder(a),
        (c, a) -> c.forecast(a)
    };

    public static void main(String[] args) {
        noSuchAgent();
        lowestNumber();
        sixteenAgents();
        addIsRanged();
        addOnlyOnFreeCells();
        addedAreNew();
        orderInAdd();
        remaining();
        removedLeaders();
        removedMembers();
        changeIsRanged();
        changeKeepsHeadingAndWait();
        whatOfAnAgent();
        goalNotSet();
        settledAgents();
        goalsAsTargets();
        distanceFromTheTarget();
        setsOfAgents();
        stuckAgents();
        firstAndLastAsMembers();
        offsets();
        notItself();
        leadersAreNoMembers();
        orderInJoin();
        numberOfMembers();
        lastMemberJoinsAnother();
        slotsTurnRound();
        slotsAtTheEdges();
        slotsOnWalls();
        leaveOnlyMembers();
        lastMemberLeaves();
        disorderOnlyOfLeaders();
        disorderOfAll();
        Check.end("AgentEdgesTest");
    }

    // ---- numbers of agents

    private static void noSuchAgent() {
        Check.sentence("Throws IndexOutOfBoundsException if there is no such agent");
        for (int call = 0; call < AGENT_CALLS.length; call++) {
            AgentCall asking = AGENT_CALLS[call];
            String what = "11: call " + call + " of agent ";
            for (int agent : new int[] {-1, 5, 15, 16, 17, 32, LOW, HIGH}) {
                Check.outOfBounds(what + agent, Scenes::lively, c -> asking.on(c, agent));
            }
            Check.outOfBounds(what + "0 of none", CrowdSimulator::new, c -> asking.on(c, 0));
            Check.outOfBounds(what + "16 of sixteen", Scenes::full, c -> asking.on(c, 16));
            Check.outOfBounds(what + "4, removed before", AgentEdgesTest::livelyWithoutTheLast, c -> asking.on(c, 4));
        }
    }

    private static CrowdSimulator livelyWithoutTheLast() {
        CrowdSimulator crowd = Scenes.lively();
        crowd.remove(4);
        return crowd;
    }

    private static void lowestNumber() {
        Check.sentence("There are agents with numbers from 0 to 15; a new agent gets the lowest number that does not"
            + " exist.");
        CrowdSimulator crowd = new CrowdSimulator();
        for (int agent = 0; agent < 16; agent++) {
            Check.same("10: a new one", crowd.add(agent % 14, agent / 14, -1, 0), agent);
        }
        for (int agent = 0; agent < 16; agent++) {
            crowd.remove(agent);
            Check.same("10: one that was removed", crowd.add(agent % 14, 5 + agent / 14, -1, 0), agent);
        }
        for (int agent = 15; agent >= 0; agent -= 5) {
            crowd.remove(agent);
        }
        for (int agent = 0; agent < 16; agent += 5) {
            Check.same("10: the lowest of some", crowd.add(agent % 14, 9, -1, 0), agent);
        }
    }

    private static void sixteenAgents() {
        Check.sentence("Throws IllegalStateException if the cell is a wall, an agent is on it, or there are 16 agents");
        Check.badState("10: a seventeenth", Scenes::full, c -> c.add(13, 9, -1, 0));
        CrowdSimulator crowd = Scenes.full();
        for (int round = 0; round < 3; round++) {
            crowd.remove(15);
            Check.same("10: a sixteenth", crowd.add(13, round, -1, 0), 15);
            Check.same("10: all sixteen", crowd.agents(0), 65535);
            Check.same("10: no more", Check.thrownBy(() -> crowd.add(13, 9, -1, 0)), "IllegalStateException");
        }
    }

    // ---- add

    private static void addIsRanged() {
        Check.sentence("Throws IllegalArgumentException if the goal or the priority is out of range");
        for (int goal = -1; goal < 4; goal++) {
            for (int priority = 0; priority < 10; priority++) {
                CrowdSimulator crowd = new CrowdSimulator();
                Check.same("10: added", crowd.add(4, 4, goal, priority), 0);
                Check.same("10: its goal", crowd.agent(0, 2), goal);
                Check.same("10: its priority", crowd.agent(0, 3), priority);
            }
        }
        for (int goal : new int[] {-2, 4, LOW, HIGH}) {
            Check.badArgument("10: goal " + goal, Scenes::lively, c -> c.add(0, 9, goal, 0));
        }
        for (int priority : new int[] {-1, 10, LOW, HIGH}) {
            Check.badArgument("10: priority " + priority, Scenes::lively, c -> c.add(0, 9, 0, priority));
        }
    }

    private static void addOnlyOnFreeCells() {
        Check.sentence("An agent is on a cell that is no wall and that no other agent is on");
        Check.badState("10: on a wall", Scenes::lively, c -> c.add(8, 8, -1, 0));
        Check.badState("10: on agent 4", Scenes::lively, c -> c.add(12, 3, -1, 0));
        Check.badState("10: on agent 15 beside a free number", () -> {
            CrowdSimulator crowd = Scenes.full();
            crowd.remove(3);
            return crowd;
        }, c -> c.add(7, 1, -1, 0));
        CrowdSimulator crowd = Scenes.lively();
        crowd.remove(4);
        Check.same("10: where the agent was", crowd.add(12, 3, -1, 0), 4);
        crowd.setCell(8, 8, 1);
        Check.same("10: where the wall was", crowd.add(8, 8, -1, 0), 5);
        Check.same("10: on a goal", crowd.add(9, 9, -1, 0), 6);
        Check.same("10: on a dear cell", crowd.setCell(13, 0, 9) + crowd.add(13, 0, -1, 0), 1 + 7);
    }

    private static void addedAreNew() {
        Check.sentence("Adds an agent, which is neither leader nor member.");
        CrowdSimulator crowd = Scenes.waiting(3, 505, 507);
        crowd.join(0, 1, 1, 1);
        crowd.setGoal(1, 7, 7);
        crowd.change(1, true, 1);
        crowd.tick(2);
        crowd.remove(0);
        crowd.remove(1);
        for (int agent = 0; agent < 2; agent++) {
            crowd.add(4, 2 + agent, -1, 6);
            int[] due = {4, 2 + agent, -1, 6, 0, 0, -1, -1, -1, -1, 1};
            for (int what = 0; what < due.length; what++) {
                Check.same("10: number " + what + " of a new " + agent, crowd.agent(agent, what), due[what]);
            }
        }
        Check.same("10: leaders and members", crowd.agents(3) + crowd.agents(4), 0);
        Check.same("10: added ones do not pass", crowd.cell(4, 2, 2) + crowd.cell(4, 3, 2), 0);
    }

    private static void orderInAdd() {
        Check.sentence("If several exceptions apply, the one named first is thrown.");
        int[][] outside = {{-1, 0}, {14, 0}, {0, -1}, {0, 10}};
        for (int[] cell : outside) {
            Check.outOfBounds("10: no cell, goal 4", Scenes::lively, c -> c.add(cell[0], cell[1], 4, 0));
            Check.outOfBounds("10: no cell, priority -1", Scenes::lively, c -> c.add(cell[0], cell[1], 0, -1));
            Check.outOfBounds("10: no cell, sixteen agents", Scenes::full, c -> c.add(cell[0], cell[1], 0, 0));
        }
        for (int bad = 0; bad < 2; bad++) {
            int goal = bad == 0 ? 4 : 0;
            int priority = bad == 0 ? 0 : 10;
            Check.badArgument("10: bad, on a wall", Scenes::lively, c -> c.add(8, 8, goal, priority));
            Check.badArgument("10: bad, on an agent", Scenes::lively, c -> c.add(12, 3, goal, priority));
            Check.badArgument("10: bad, sixteen agents", Scenes::full, c -> c.add(0, 9, goal, priority));
        }
    }

    // ---- remove and change

    private static void remaining() {
        Check.sentence("Returns the number of agents that remain.");
        CrowdSimulator crowd = Scenes.full();
        for (int agent = 0; agent < 16; agent++) {
            Check.same("11: after agent " + agent, crowd.remove(agent), 15 - agent);
            Check.same("11: its cell", crowd.cell(agent % 8, agent / 8, 1), -1);
        }
        Check.same("11: none", crowd.agents(0), 0);
        Check.same("11: not twice", Check.thrownBy(() -> crowd.remove(15)), "IndexOutOfBoundsException");
    }

    /** Agent 0 leads 1 and 2, agent 3 leads 4, agent 5 does neither. */
    private static CrowdSimulator formations() {
        CrowdSimulator crowd = Scenes.formations();
        crowd.add(10, 4, -1, 0);
        return crowd;
    }

    private static void removedLeaders() {
        Check.sentence("Its members, if it is a leader, are neither leaders nor members any more");
        CrowdSimulator crowd = formations();
        crowd.remove(0);
        Check.same("11: leaders", crowd.agents(3), 8);
        Check.same("11: members", crowd.agents(4), 16);
        for (int member = 1; member < 3; member++) {
            Check.same("11: leader of " + member, crowd.agent(member, 6), -1);
            Check.same("11: target of " + member, crowd.agent(member, 7), -1);
        }
        crowd.add(0, 0, -1, 0);
        Check.same("11: they are not members of the next 0", crowd.agents(3), 8);
        Check.same("11: they may lead", crowd.join(2, 1, 1, 1), 1);
    }

    private static void removedMembers() {
        Check.sentence("the same is true for its leader, if it was the only member");
        CrowdSimulator crowd = formations();
        crowd.remove(4);
        Check.same("11: the only member", crowd.agents(3), 1);
        Check.same("11: so its leader may join", crowd.join(3, 0, 1, 1), 3);
        crowd.remove(1);
        Check.same("11: one of three members", crowd.agents(3), 1);
        Check.same("11: the others stay", crowd.agents(4), 4 + 8);
        Check.same("11: so their leader may not join", Check.thrownBy(() -> crowd.join(0, 5, 1, 1)),
            "IllegalStateException");
    }

    private static void changeIsRanged() {
        Check.sentence("Throws IllegalArgumentException if the value is out of range");
        CrowdSimulator crowd = new CrowdSimulator();
        crowd.add(4, 4, 2, 7);
        int previous = 2;
        for (int goal : new int[] {-1, 0, 1, 2, 3, 3, -1}) {
            Check.same("12: the goal before " + goal, crowd.change(0, true, goal), previous);
            previous = goal;
        }
        previous = 7;
        for (int priority : new int[] {0, 1, 2, 3, 4, 5, 6, 7, 8, 9, 9, 0}) {
            Check.same("12: the priority before " + priority, crowd.change(0, false, priority), previous);
            previous = priority;
        }
        for (int goal : new int[] {-2, 4, 9, LOW, HIGH}) {
            Check.badArgument("12: goal " + goal, Scenes::lively, c -> c.change(0, true, goal));
        }
        for (int priority : new int[] {-1, 10, LOW, HIGH}) {
            Check.badArgument("12: priority " + priority, Scenes::lively, c -> c.change(0, false, priority));
        }
    }

    private static void changeKeepsHeadingAndWait() {
        Check.sentence("Changing goal or priority leaves heading and wait as they are.");
        CrowdSimulator crowd = Scenes.corridor();
        crowd.setGoal(0, 9, 0);
        crowd.add(2, 0, 0, 5);
        crowd.add(4, 0, -1, 5);
        crowd.tick(3);
        crowd.change(0, true, -1);
        Check.same("12: heading, goal changed", crowd.agent(0, 4), 1);
        Check.same("12: wait, goal changed", crowd.agent(0, 5), 2);
        crowd.change(0, true, 0);
        crowd.change(0, false, 0);
        Check.same("12: heading, priority changed", crowd.agent(0, 4), 1);
        Check.same("12: wait, priority changed", crowd.agent(0, 5), 2);
    }

    // ---- agent and agents

    private static void whatOfAnAgent() {
        Check.sentence("10: 1 if it is settled, otherwise 0");
        for (int what = 0; what < 11; what++) {
            int asked = what;
            String thrown = Check.thrownBy(() -> Scenes.lively().agent(4, asked));
            Check.same("13: what " + what, thrown, "nothing");
        }
        for (int what : new int[] {-1, 11, LOW, HIGH}) {
            Check.badArgument("13: what " + what, Scenes::lively, c -> c.agent(4, what));
        }
    }

    private static void target(String what, CrowdSimulator crowd, int agent, int... xAndYAndDistanceAndSettled) {
        for (int i = 0; i < 4; i++) {
            Check.same(what + ", number " + (7 + i), crowd.agent(agent, 7 + i), xAndYAndDistanceAndSettled[i]);
        }
    }

    private static void goalNotSet() {
        Check.sentence("An agent whose goal is not set has no target, unless it is a member.");
        CrowdSimulator crowd = new CrowdSimulator();
        crowd.add(2, 2, 1, 0);
        crowd.add(5, 5, -1, 0);
        target("13: a goal not set", crowd, 0, -1, -1, -1, 1);
        target("13: no goal", crowd, 1, -1, -1, -1, 1);
        crowd.join(0, 1, 1, 0);
        target("13: a member with a goal not set", crowd, 0, 6, 5, 7, 0);
        crowd.leave(0);
        crowd.setGoal(1, 2, 0);
        target("13: the goal is set", crowd, 0, 2, 0, 2, 0);
        crowd.dropGoal(1);
        target("13: the goal is dropped", crowd, 0, -1, -1, -1, 1);
        crowd.undo();
        target("13: and is back", crowd, 0, 2, 0, 2, 0);
    }

    private static void goalsAsTargets() {
        Check.sentence("The target of another agent is its goal, if it has one that is set.");
        for (int goal = 0; goal < 4; goal++) {
            CrowdSimulator crowd = new CrowdSimulator();
            crowd.add(5, 5, goal, 0);
            target("13: goal " + goal + ", none is set", crowd, 0, -1, -1, -1, 1);
            for (int other = 0; other < 4; other++) {
                crowd.setGoal(other, 13 * (other % 2), 3 + other);
            }
            int x = 13 * (goal % 2);
            target("13: goal " + goal, crowd, 0, x, 3 + goal, Math.abs(x - 5) + Math.abs(goal - 2), 0);
        }
    }

    private static void settledAgents() {
        Check.sentence("An agent is settled if it has no target, or is on it.");
        CrowdSimulator crowd = new CrowdSimulator();
        crowd.setGoal(0, 3, 3);
        crowd.add(3, 3, 0, 0);
        crowd.add(4, 3, 0, 0);
        crowd.add(5, 3, -1, 0);
        crowd.add(6, 3, 1, 0);
        Check.same("14: all but the one beside its target", crowd.agents(1), 1 + 4 + 8);
        for (int agent = 0; agent < 4; agent++) {
            Check.same("13: agent " + agent, crowd.agent(agent, 10), agent == 1 ? 0 : 1);
        }
        crowd.setGoal(0, 4, 3);
        Check.same("14: now the other one", crowd.agents(1), 2 + 4 + 8);
        crowd.join(3, 2, 1, 0);
        Check.same("14: a member on its slot", crowd.agents(1), 2 + 4 + 8);
        crowd.join(3, 2, 0, 1);
        Check.same("14: a member beside its slot", crowd.agents(1), 2 + 4);
    }

    private static void distanceFromTheTarget() {
        Check.sentence("Agents on their targets have the distance 0.");
        CrowdSimulator crowd = Check.onMap("1#/#");
        crowd.setCell(7, 7, 9);
        crowd.setGoal(0, 7, 7);
        crowd.setGoal(1, 0, 0);
        crowd.add(7, 7, 0, 0);
        crowd.add(7, 8, 0, 0);
        crowd.add(7, 9, 1, 0);
        target("13: on its target", crowd, 0, 7, 7, 0, 1);
        target("13: beside a dear target", crowd, 1, 7, 7, 9, 0);
        target("13: without a way", crowd, 2, 0, 0, -1, 0);
    }

    private static void setsOfAgents() {
        Check.sentence("0 all; 1 those that are settled; 2 those that are stuck; 3 the leaders; 4 the members");
        CrowdSimulator pairs = Scenes.full();
        for (int agent = 0; agent < 8; agent++) {
            pairs.join(8 + agent, agent, 0, 1);
        }
        int[] due = {65535, 65535, 0, 255, 65280};
        CrowdSimulator none = new CrowdSimulator();
        for (int what = 0; what < due.length; what++) {
            Check.same("14: of eight pairs, what " + what, pairs.agents(what), due[what]);
            Check.same("14: of none, what " + what, none.agents(what), 0);
        }
        for (int what : new int[] {-1, 5, LOW, HIGH}) {
            Check.badArgument("14: what " + what, Scenes::lively, c -> c.agents(what));
        }
    }

    private static void stuckAgents() {
        Check.sentence("An agent is stuck if its wait is at least 2.");
        int[] cells = new int[16];
        for (int i = 0; i < 16; i++) {
            cells[i] = 300 + 200 * (i / 7) + i % 7 * 2;
        }
        Check.same("14: all have waited once", Scenes.waiting(1, cells).agents(2), 0);
        Check.same("14: all have waited twice", Scenes.waiting(2, cells).agents(2), 65535);
        Check.same("14: all have waited long", Scenes.waiting(50, cells).agents(2), 65535);
        CrowdSimulator crowd = Scenes.waiting(2, cells);
        crowd.setGoal(0, 13, 9);
        Check.same("14: as long as the waits are there", crowd.agents(2), 65535);
        crowd.tick(1);
        Check.same("14: they have moved", crowd.agents(2), 0);
    }

    private static void firstAndLastAsMembers() {
        Check.sentence("6 its leader, -1 if it is no member");
        CrowdSimulator crowd = Scenes.full();
        crowd.join(0, 15, 1, 0);
        Check.same("13: the leader of agent 0", crowd.agent(0, 6), 15);
        Check.same("13: the leader of agent 15", crowd.agent(15, 6), -1);
        Check.same("14: agent 15 alone leads", crowd.agents(3), 32768);
        Check.same("14: agent 0 alone is a member", crowd.agents(4), 1);
        Check.same("17: of agent 0", crowd.disorder(15), 8 + 1);
        crowd.leave(0);
        crowd.join(15, 0, 0, 1);
        Check.same("13: now the leader of agent 15", crowd.agent(15, 6), 0);
        Check.same("14: agent 0 alone leads", crowd.agents(3), 1);
        Check.same("14: agent 15 alone is a member", crowd.agents(4), 32768);
        Check.same("17: of agent 15", crowd.disorder(0), 7);
        crowd.remove(0);
        Check.same("13: no leader any more", crowd.agent(15, 6), -1);
        Check.same("14: no members any more", crowd.agents(4), 0);
    }

    // ---- join

    private static void offsets() {
        Check.sentence("a member has a leader and an offset, two numbers from -3 to 3");
        for (int ox = -4; ox < 5; ox++) {
            for (int oy = -4; oy < 5; oy++) {
                CrowdSimulator crowd = formations();
                int x = ox;
                int y = oy;
                boolean isGood = Math.abs(ox) < 4 && Math.abs(oy) < 4 && (ox != 0 || oy != 0);
                String thrown = Check.thrownBy(() -> crowd.join(5, 3, x, y));
                Check.same("15: offset " + ox + ", " + oy, thrown, isGood ? "nothing" : "IllegalArgumentException");
                int target = isGood ? 406 + 100 * oy + ox : -101;
                Check.same("15: its slot by " + ox + ", " + oy, Check.targetOf(crowd, 5), target);
            }
        }
        for (int bad : new int[] {-4, 4, LOW, HIGH}) {
            Check.badArgument("15: ox " + bad, AgentEdgesTest::formations, c -> c.join(5, 3, bad, 3));
            Check.badArgument("15: oy " + bad, AgentEdgesTest::formations, c -> c.join(5, 3, -3, bad));
            Check.badArgument("15: both " + bad, AgentEdgesTest::formations, c -> c.join(5, 3, bad, bad));
        }
        Check.badArgument("15: both 0", AgentEdgesTest::formations, c -> c.join(5, 3, 0, 0));
    }

    private static void notItself() {
        Check.sentence("Throws IllegalArgumentException if both are the same");
        for (int agent : new int[] {0, 1, 5}) {
            Check.badArgument("15: agent " + agent, AgentEdgesTest::formations, c -> c.join(agent, agent, 1, 1));
        }
    }

    private static void leadersAreNoMembers() {
        Check.sentence("Throws IllegalStateException if the agent is a leader, or the other one is a member");
        Check.badState("15: a leader to neither", AgentEdgesTest::formations, c -> c.join(0, 5, 1, 1));
        Check.badState("15: a leader to a leader", AgentEdgesTest::formations, c -> c.join(0, 3, 1, 1));
        Check.badState("15: a leader to its member", AgentEdgesTest::formations, c -> c.join(3, 4, 1, 1));
        Check.badState("15: neither to a member", AgentEdgesTest::formations, c -> c.join(5, 4, 1, 1));
        Check.badState("15: a member to a member", AgentEdgesTest::formations, c -> c.join(1, 2, 1, 1));
        Check.same("15: a member to neither", formations().join(4, 5, 1, 1), 1);
        Check.same("15: a member to a leader", formations().join(4, 0, 1, 1), 3);
        Check.same("15: neither to a leader", formations().join(5, 3, 1, 1), 2);
    }

    private static void orderInJoin() {
        Check.sentence("If several exceptions apply, the one named first is thrown.");
        Check.outOfBounds("15: no agent, same", AgentEdgesTest::formations, c -> c.join(6, 6, 1, 1));
        Check.outOfBounds("15: no agent, bad offset", AgentEdgesTest::formations, c -> c.join(6, 0, 0, 0));
        Check.outOfBounds("15: no leader, bad offset", AgentEdgesTest::formations, c -> c.join(5, -1, 4, 1));
        Check.outOfBounds("15: no agent, to a member", AgentEdgesTest::formations, c -> c.join(16, 1, 1, 1));
        Check.outOfBounds("15: a leader, to no agent", AgentEdgesTest::formations, c -> c.join(0, 16, 1, 1));
        Check.badArgument("15: a leader, itself", AgentEdgesTest::formations, c -> c.join(0, 0, 1, 1));
        Check.badArgument("15: a member, itself", AgentEdgesTest::formations, c -> c.join(1, 1, 1, 1));
        Check.badArgument("15: a leader, bad ox", AgentEdgesTest::formations, c -> c.join(0, 3, 4, 1));
        Check.badArgument("15: a leader, bad oy", AgentEdgesTest::formations, c -> c.join(0, 3, 1, -4));
        Check.badArgument("15: to a member, no offset", AgentEdgesTest::formations, c -> c.join(5, 1, 0, 0));
    }

    private static void numberOfMembers() {
        Check.sentence("Returns the number of members of the leader.");
        CrowdSimulator crowd = Scenes.full();
        for (int agent = 0; agent < 15; agent++) {
            Check.same("15: with agent " + agent, crowd.join(agent, 15, 1, 0), agent + 1);
        }
        Check.same("15: the same leader again", crowd.join(7, 15, 0, 1), 15);
        Check.same("15: leaders", crowd.agents(3), 32768);
        Check.same("15: members", crowd.agents(4), 32767);
        Check.same("15: the leader goes", crowd.remove(15), 15);
        Check.same("15: members without it", crowd.agents(3) + crowd.agents(4), 0);
    }

    private static void lastMemberJoinsAnother() {
        Check.sentence("A member can join another leader, or the same one with another offset; a leader that loses its"
            + " last member by that is no leader any more.");
        CrowdSimulator crowd = formations();
        Check.same("15: one of two goes", crowd.join(1, 3, 1, 1), 2);
        Check.same("15: both lead", crowd.agents(3), 1 + 8);
        Check.same("15: the last goes", crowd.join(2, 3, 1, 2), 3);
        Check.same("15: one leads", crowd.agents(3), 8);
        Check.badState("17: no disorder any more", () -> {
            CrowdSimulator other = formations();
            other.join(4, 0, 1, 1);
            return other;
        }, c -> c.disorder(3));
        Check.same("15: the same leader with another offset", crowd.join(4, 3, 3, 3), 3);
        Check.same("15: still one leads", crowd.agents(3), 8);
        Check.same("15: its new slot", Check.targetOf(crowd, 4), 709);
    }

    /** The leader goes once round a cell; the member is shut in, so that it stays. */
    private static void slotsTurnRound() {
        Check.sentence("(ox, oy) for the heading 0, (-oy, ox) for 1, (-ox, -oy) for 2, and (oy, -ox) for 3");
        CrowdSimulator crowd = new CrowdSimulator();
        crowd.setCell(12, 9, 0);
        crowd.setCell(13, 8, 0);
        crowd.add(5, 5, 0, 9);
        crowd.add(13, 9, -1, 0);
        crowd.join(1, 0, 1, 2);
        int[] places = {506, 606, 605, 505};
        int[] slots = {604, 405, 507, 706};
        for (int round = 0; round < 2; round++) {
            for (int i = 0; i < 4; i++) {
                crowd.setGoal(0, places[i] % 100, places[i] / 100);
                crowd.tick(1);
                Check.same("13: the leader's heading", crowd.agent(0, 4), (i + 1) % 4);
                Check.same("13: the slot by heading " + (i + 1) % 4, Check.targetOf(crowd, 1), slots[i]);
            }
        }
    }

    /** A leader of which the slots by 3 are in the last columns and rows, then one a step beyond. */
    private static void slotsAtTheEdges() {
        Check.sentence("The target of a member is its slot, if this is a cell of the grid that is no wall, and"
            + " otherwise the cell of its leader.");
        int[][] insides = {{3, 5, -3, 0}, {10, 5, 3, 0}, {5, 3, 0, -3}, {5, 6, 0, 3}};
        for (int[] row : insides) {
            for (int beyond = 0; beyond < 2; beyond++) {
                int x = row[0] + beyond * Integer.signum(row[2]);
                int y = row[1] + beyond * Integer.signum(row[3]);
                CrowdSimulator crowd = new CrowdSimulator();
                crowd.add(x, y, -1, 0);
                crowd.add(7, 9, -1, 0);
                crowd.join(1, 0, row[2], row[3]);
                int due = beyond == 0 ? 100 * (y + row[3]) + x + row[2] : 100 * y + x;
                Check.same("13: at an edge, beyond by " + beyond, Check.targetOf(crowd, 1), due);
            }
        }
        CrowdSimulator corner = new CrowdSimulator();
        corner.add(13, 9, -1, 0);
        corner.add(0, 0, -1, 0);
        corner.join(1, 0, 3, 3);
        Check.same("13: beyond the last corner", Check.targetOf(corner, 1), 913);
        corner.join(1, 0, -3, -3);
        Check.same("13: before the last corner", Check.targetOf(corner, 1), 610);
    }

    private static void slotsOnWalls() {
        Check.sentence("if this is a cell of the grid that is no wall, and otherwise the cell of its leader");
        CrowdSimulator crowd = formations();
        Check.same("13: a free slot", Check.targetOf(crowd, 4), 405);
        crowd.setCell(5, 4, 0);
        Check.same("13: a slot that has become a wall", Check.targetOf(crowd, 4), 406);
        Check.same("13: beside its leader there is no rest", crowd.agent(4, 10), 0);
        crowd.setCell(5, 4, 9);
        Check.same("13: a slot that is a cell again", Check.targetOf(crowd, 4), 405);
        crowd.undo();
        Check.same("13: a slot that is a wall again", Check.targetOf(crowd, 4), 406);
    }

    // ---- leave and disorder

    private static void leaveOnlyMembers() {
        Check.sentence("Throws IllegalStateException if it is no member");
        Check.badState("16: a leader", AgentEdgesTest::formations, c -> c.leave(0));
        Check.badState("16: neither", AgentEdgesTest::formations, c -> c.leave(5));
        Check.badState("16: left before", () -> {
            CrowdSimulator crowd = formations();
            crowd.leave(4);
            return crowd;
        }, c -> c.leave(4));
        Check.badState("16: its leader removed", () -> {
            CrowdSimulator crowd = formations();
            crowd.remove(3);
            return crowd;
        }, c -> c.leave(4));
        CrowdSimulator crowd = formations();
        for (int round = 0; round < 3; round++) {
            Check.same("16: its leader", crowd.leave(4), 3);
            Check.same("16: and again a member", crowd.join(4, 3, 1, 1), 1);
        }
    }

    private static void lastMemberLeaves() {
        Check.sentence("A leader without members is no leader any more.");
        CrowdSimulator crowd = formations();
        Check.same("16: the first of two", crowd.leave(1), 0);
        Check.same("16: still a leader", crowd.agents(3), 1 + 8);
        Check.same("16: the second of two", crowd.leave(2), 0);
        Check.same("16: no leader any more", crowd.agents(3), 8);
        Check.same("16: the only one", crowd.leave(4), 3);
        Check.same("16: no leaders any more", crowd.agents(3), 0);
        Check.same("16: so it may join", crowd.join(0, 4, 1, 1), 1);
    }

    private static void disorderOnlyOfLeaders() {
        Check.sentence("Throws IllegalStateException if it is no leader");
        Check.badState("17: a member", AgentEdgesTest::formations, c -> c.disorder(1));
        Check.badState("17: neither", AgentEdgesTest::formations, c -> c.disorder(5));
        Check.badState("17: no leader any more", () -> {
            CrowdSimulator crowd = formations();
            crowd.leave(4);
            return crowd;
        }, c -> c.disorder(3));
    }

    private static void disorderOfAll() {
        Check.sentence("the sum, over all members of a leader, of the absolute differences of the columns and of the"
            + " rows of their cells and targets");
        CrowdSimulator crowd = new CrowdSimulator();
        crowd.add(6, 3, -1, 0);
        for (int i = 0; i < 15; i++) {
            int member = crowd.add(5 + i % 5, 4 + i / 5, -1, 0);
            crowd.join(member, 0, 1, 2);
        }
        Check.same("17: three rows of five about the slot of all", crowd.disorder(0), 3 * 6 + 5 * 2);
        for (int member = 1; member < 16; member++) {
            if (member != 8) {
                crowd.leave(member);
            }
        }
        Check.same("17: the one on its slot", crowd.disorder(0), 0);
        crowd.join(8, 0, 3, -3);
        Check.same("17: five rows and two columns from its slot", crowd.disorder(0), 5 + 2);
    }
}
