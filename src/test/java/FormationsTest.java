/** Promises 15 to 17: members, their slots and the disorder. */
public final class FormationsTest {
    private static final int LOW = Integer.MIN_VALUE;
    private static final int HIGH = Integer.MAX_VALUE;

    public static void main(String[] args) {
        join();
        joinAgain();
        agentZeroAsMember();
        joinRefused();
        slots();
        slotsOnWalls();
        leave();
        leaveRefused();
        disorder();
        disorderRefused();
        Check.end("FormationsTest");
    }

    /** Agents 0 to 4 in row 4; 1 and 2 are members of 0. */
    private static CrowdSimulator five() {
        CrowdSimulator crowd = new CrowdSimulator();
        for (int i = 0; i < 5; i++) {
            crowd.add(2 * i, 4, -1, 0);
        }
        crowd.join(1, 0, 1, 0);
        crowd.join(2, 0, 0, 3);
        return crowd;
    }

    private static void join() {
        CrowdSimulator crowd = five();
        Check.same("15: the third member", crowd.join(4, 0, -3, 3), 3);
        Check.same("15: its leader", crowd.agent(4, 6), 0);
        Check.same("15: the leader's leader", crowd.agent(0, 6), -1);
        Check.same("15: leaders", crowd.agents(3), 1);
        Check.same("15: members", crowd.agents(4), 2 + 4 + 16);
        crowd.change(4, true, 2);
        crowd.setGoal(2, 9, 9);
        Check.same("15: the goal is no target", Check.targetOf(crowd, 4), 400);
        Check.same("15: the goal stays", crowd.agent(4, 2), 2);
        Check.same("15: offsets (0, 1)", crowd.join(1, 0, 0, 1), 3);
        Check.same("15: the new slot", Check.targetOf(crowd, 1), 500);
    }

    private static void joinAgain() {
        CrowdSimulator crowd = five();
        Check.same("15: the same leader", crowd.join(1, 0, 3, -3), 2);
        Check.same("15: with another offset", Check.targetOf(crowd, 1), 103);
        Check.same("15: another leader", crowd.join(1, 3, 1, 1), 1);
        Check.same("15: two leaders", crowd.agents(3), 9);
        Check.same("15: the last member goes", crowd.join(2, 3, 0, 1), 2);
        Check.same("15: no leader any more", crowd.agents(3), 8);
        Check.same("15: so it may join", crowd.join(0, 3, 0, -1), 3);
    }

    private static void agentZeroAsMember() {
        CrowdSimulator crowd = five();
        crowd.leave(1);
        crowd.leave(2);
        Check.same("15: agent 0 joins", crowd.join(0, 4, -1, 0), 1);
        Check.same("15: members", crowd.agents(4), 1);
        Check.same("15: leaders", crowd.agents(3), 16);
        Check.same("17: of agent 0", crowd.disorder(4), 7);
        Check.same("11: its leader goes", crowd.remove(4), 4);
        Check.same("11: so it is no member", crowd.agents(4), 0);
    }

    private static void joinRefused() {
        for (int agent : new int[] {-1, 5, 16, LOW, HIGH}) {
            Check.outOfBounds("15: agent " + agent, FormationsTest::five, c -> c.join(agent, 0, 1, 1));
            Check.outOfBounds("15: leader " + agent, FormationsTest::five, c -> c.join(4, agent, 1, 1));
            Check.outOfBounds("15: both " + agent, FormationsTest::five, c -> c.join(agent, agent, 4, 0));
        }
        for (int offset : new int[] {-4, 4, LOW, HIGH}) {
            Check.badArgument("15: ox " + offset, FormationsTest::five, c -> c.join(4, 0, offset, 1));
            Check.badArgument("15: oy " + offset, FormationsTest::five, c -> c.join(4, 0, 1, offset));
            Check.badArgument("15: ox of a leader " + offset, FormationsTest::five, c -> c.join(0, 1, offset, 1));
        }
        Check.badArgument("15: no offset", FormationsTest::five, c -> c.join(4, 0, 0, 0));
        Check.badArgument("15: itself", FormationsTest::five, c -> c.join(4, 4, 1, 1));
        Check.badArgument("15: the leader itself", FormationsTest::five, c -> c.join(0, 0, 1, 1));
        Check.badState("15: a leader", FormationsTest::five, c -> c.join(0, 3, 1, 1));
        Check.badState("15: a leader to its member", FormationsTest::five, c -> c.join(0, 1, 1, 1));
        Check.badState("15: to a member", FormationsTest::five, c -> c.join(4, 1, 1, 1));
        Check.badState("15: a member to a member", FormationsTest::five, c -> c.join(2, 1, 1, 1));
    }

    /** A leader on (6, 5) that has made its last step to there in a direction. */
    private static CrowdSimulator headed(int direction) {
        CrowdSimulator crowd = new CrowdSimulator();
        int[] xs = {6, 5, 6, 7};
        int[] ys = {6, 5, 4, 5};
        crowd.setGoal(0, 6, 5);
        crowd.add(xs[direction], ys[direction], 0, 9);
        crowd.add(0, 0, -1, 0);
        crowd.tick(1);
        return crowd;
    }

    private static void slots() {
        int[][] offsets = {{1, 2}, {-2, 1}, {1, -3}};
        int[][] due = {{707, 604, 305, 408}, {604, 305, 408, 707}, {207, 609, 805, 403}};
        for (int direction = 0; direction < 4; direction++) {
            CrowdSimulator crowd = headed(direction);
            Check.same("15: heading", crowd.agent(0, 4), direction);
            for (int i = 0; i < offsets.length; i++) {
                crowd.join(1, 0, offsets[i][0], offsets[i][1]);
                String what = "15: slot " + i + " by heading " + direction;
                Check.same(what, Check.targetOf(crowd, 1), due[i][direction]);
            }
        }
    }

    private static void slotsOnWalls() {
        CrowdSimulator crowd = five();
        Check.same("15: the slot", Check.targetOf(crowd, 1), 401);
        crowd.setCell(1, 4, 0);
        Check.same("15: a slot on a wall", Check.targetOf(crowd, 1), 400);
        crowd.setCell(1, 4, 9);
        Check.same("15: a slot on a dear cell", Check.targetOf(crowd, 1), 401);
        int[][] outside = {{-1, 0}, {-3, 3}};
        for (int[] offset : outside) {
            crowd.join(1, 0, offset[0], offset[1]);
            Check.same("15: a slot outside in the west", Check.targetOf(crowd, 1), 400);
        }
        crowd.add(13, 9, -1, 0);
        crowd.join(4, 5, 0, 1);
        Check.same("15: a slot outside in the south", Check.targetOf(crowd, 4), 913);
        crowd.join(4, 5, 1, 0);
        Check.same("15: a slot outside in the east", Check.targetOf(crowd, 4), 913);
        crowd.add(12, 0, -1, 0);
        crowd.join(4, 6, 0, -1);
        Check.same("15: a slot outside in the north", Check.targetOf(crowd, 4), 12);
        crowd.join(4, 6, 1, 0);
        Check.same("15: a slot with an agent on it", Check.targetOf(crowd, 4), 13);
        crowd.add(13, 0, -1, 0);
        Check.same("15: stays the slot", Check.targetOf(crowd, 4), 13);
    }

    private static void leave() {
        CrowdSimulator crowd = five();
        crowd.change(1, true, 3);
        crowd.setGoal(3, 7, 7);
        Check.same("16: its leader", crowd.leave(1), 0);
        Check.same("16: no member", crowd.agent(1, 6), -1);
        Check.same("16: its goal is its target", Check.targetOf(crowd, 1), 707);
        Check.same("16: leader with a member", crowd.agents(3), 1);
        Check.same("16: the other one", crowd.leave(2), 0);
        Check.same("16: leader without members", crowd.agents(3), 0);
        Check.same("16: no members", crowd.agents(4), 0);
        Check.same("16: without a target", crowd.agent(2, 7), -1);
        crowd.join(4, 3, 1, 1);
        Check.same("16: a leader that is not 0", crowd.leave(4), 3);
    }

    private static void leaveRefused() {
        for (int agent : new int[] {-1, 5, 16, LOW, HIGH}) {
            Check.outOfBounds("16: agent " + agent, FormationsTest::five, c -> c.leave(agent));
        }
        Check.badState("16: a leader", FormationsTest::five, c -> c.leave(0));
        Check.badState("16: neither", FormationsTest::five, c -> c.leave(3));
        Check.badState("16: left before", () -> {
            CrowdSimulator crowd = five();
            crowd.leave(1);
            return crowd;
        }, c -> c.leave(1));
    }

    private static void disorder() {
        CrowdSimulator crowd = five();
        Check.same("17: two members", crowd.disorder(0), 1 + (4 + 3));
        crowd.join(1, 0, 2, 0);
        Check.same("17: one on its slot", crowd.disorder(0), 7);
        crowd.join(1, 0, 3, 0);
        Check.same("17: west of its slot", crowd.disorder(0), 8);
        crowd.setCell(3, 4, 0);
        Check.same("17: the leader's cell counts for a wall", crowd.disorder(0), 9);
        crowd.leave(2);
        Check.same("17: the rest", crowd.disorder(0), 2);
        crowd.join(4, 3, 1, -2);
        Check.same("17: another formation", crowd.disorder(3), 1 + 2);
        crowd.join(4, 3, 1, 1);
        Check.same("17: south of it", crowd.disorder(3), 1 + 1);
        Check.same("17: the first formation again", crowd.disorder(0), 2);
        crowd.setCell(1, 4, 0);
        crowd.setCell(2, 3, 0);
        crowd.setCell(2, 5, 0);
        Check.same("17: no way does not matter", crowd.disorder(0), 2);
    }

    private static void disorderRefused() {
        for (int agent : new int[] {-1, 5, 16, LOW, HIGH}) {
            Check.outOfBounds("17: agent " + agent, FormationsTest::five, c -> c.disorder(agent));
        }
        Check.badState("17: a member", FormationsTest::five, c -> c.disorder(1));
        Check.badState("17: neither", FormationsTest::five, c -> c.disorder(3));
        Check.badState("17: a leader before", () -> {
            CrowdSimulator crowd = five();
            crowd.leave(1);
            crowd.leave(2);
            return crowd;
        }, c -> c.disorder(0));
    }
}
