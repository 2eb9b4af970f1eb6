/** Promises 1 to 9: a new object, cells, goals, fields and the patience. */
public final class GridAndGoalsTest {
    private static final int LOW = Integer.MIN_VALUE;
    private static final int HIGH = Integer.MAX_VALUE;
    /** A wall from north to south in column 3. */
    private static final String SPLIT = "111#/111#/111#/111#/111#/111#/111#/111#/111#/111#";

    public static void main(String[] args) {
        newObject();
        setCell();
        setCellRefused();
        cell();
        cellRefused();
        setGoal();
        setGoalRefused();
        dropGoal();
        dropGoalRefused();
        distance();
        flow();
        steps();
        fieldsRefused();
        setPatience();
        Check.end("GridAndGoalsTest");
    }

    private static CrowdSimulator empty() {
        return new CrowdSimulator();
    }

    /** An agent on (2, 3), goal 1 on (4, 5), a wall on (6, 7). */
    private static CrowdSimulator furnished() {
        CrowdSimulator crowd = empty();
        crowd.add(2, 3, 1, 4);
        crowd.setGoal(1, 4, 5);
        crowd.setCell(6, 7, 0);
        return crowd;
    }

    private static void newObject() {
        CrowdSimulator crowd = empty();
        Check.same("1: its map", Check.mapOf(crowd), "11111111111111" + "/11111111111111".repeat(9));
        for (int what = 0; what < 5; what++) {
            Check.same("1: its statistic " + what, crowd.statistic(what), 0);
            Check.same("1: its agents " + what, crowd.agents(what), 0);
        }
        for (int goal = 0; goal < 4; goal++) {
            int asked = goal;
            Check.noElement("1: its goal " + goal, GridAndGoalsTest::empty, c -> c.distance(asked, 0, 0));
        }
        Check.same("1: its cell's passes", crowd.cell(13, 9, 2), 0);
        Check.same("1: its cell's agent", crowd.cell(0, 0, 1), -1);
        Check.same("1: its jams", crowd.jams(), 0);
        Check.same("1: its patience", crowd.setPatience(3), 3);
        Check.same("1: its density", crowd.density(), 0.0);
        Check.same("1: its buffer", crowd.feed('1'), 1);
        Check.badState("1: nothing to take back", GridAndGoalsTest::empty, c -> c.undo());
        Check.badState("1: nothing saved", GridAndGoalsTest::empty, c -> c.restore());
        empty().setCell(5, 5, 9);
        Check.same("1: two objects share nothing", empty().cell(5, 5, 0), 1);
    }

    private static void setCell() {
        CrowdSimulator crowd = furnished();
        Check.same("2: cost 1 before", crowd.setCell(0, 0, 9), 1);
        Check.same("2: cost 9 before", crowd.setCell(0, 0, 0), 9);
        Check.same("2: wall before", crowd.setCell(0, 0, 0), 0);
        Check.same("2: wall stays a wall", crowd.setCell(0, 0, 7), 0);
        Check.same("2: now", crowd.cell(0, 0, 0), 7);
        Check.same("2: its neighbor", crowd.cell(1, 0, 0), 1);
        Check.same("2: the last cell", crowd.setCell(13, 9, 4), 1);
        Check.same("2: cost below an agent", crowd.setCell(2, 3, 6), 1);
        Check.same("2: cost below a goal", crowd.setCell(4, 5, 6), 1);
        Check.same("2: cost below a goal counts", crowd.distance(1, 4, 4), 6);
        crowd.tick(1);
        Check.same("2: a left cell may become a wall", crowd.setCell(2, 3, 0), 6);
        int entered = crowd.agent(0, 1) * 14 + crowd.agent(0, 0);
        crowd.remove(0);
        crowd.setCell(entered % 14, entered / 14, 0);
        Check.same("2: passes stay", crowd.cell(entered % 14, entered / 14, 2), 1);
        crowd.dropGoal(1);
        Check.same("2: a dropped goal is no hindrance", crowd.setCell(4, 5, 0), 6);
    }

    private static void setCellRefused() {
        for (int[] cell : new int[][] {{-1, 0}, {14, 0}, {0, -1}, {0, 10}, {LOW, 0}, {HIGH, 0}, {0, LOW}, {0, HIGH}}) {
            Check.outOfBounds("2: no cell", GridAndGoalsTest::furnished, c -> c.setCell(cell[0], cell[1], 1));
            Check.outOfBounds("2: no cell, bad cost", GridAndGoalsTest::furnished, c -> c.setCell(cell[0], cell[1], 10));
        }
        for (int cost : new int[] {-1, 10, LOW, HIGH}) {
            Check.badArgument("2: cost " + cost, GridAndGoalsTest::furnished, c -> c.setCell(0, 0, cost));
            Check.badArgument("2: cost with agent " + cost, GridAndGoalsTest::furnished, c -> c.setCell(2, 3, cost));
        }
        Check.badState("2: wall on an agent", GridAndGoalsTest::furnished, c -> c.setCell(2, 3, 0));
        Check.badState("2: wall on a goal", GridAndGoalsTest::furnished, c -> c.setCell(4, 5, 0));
    }

    private static void cell() {
        CrowdSimulator crowd = furnished();
        Check.same("3: wall", crowd.cell(6, 7, 0), 0);
        Check.same("3: agent", crowd.cell(2, 3, 1), 0);
        Check.same("3: no agent", crowd.cell(3, 2, 1), -1);
        Check.same("3: goal", crowd.cell(4, 5, 3), 1);
        Check.same("3: no goal", crowd.cell(5, 4, 3), -1);
        crowd.setGoal(3, 4, 5);
        Check.same("3: the lower of two goals", crowd.cell(4, 5, 3), 1);
        crowd.dropGoal(1);
        Check.same("3: the other goal", crowd.cell(4, 5, 3), 3);
        crowd.add(7, 7, -1, 0);
        crowd.add(8, 7, -1, 0);
        crowd.remove(1);
        crowd.add(0, 0, -1, 0);
        Check.same("3: agent on the first cell", crowd.cell(0, 0, 1), 1);
        crowd.remove(1);
        Check.same("3: removed agent", crowd.cell(7, 7, 1), -1);
        Check.same("3: agent 2", crowd.cell(8, 7, 1), 2);
        Check.same("3: added agents do not pass", crowd.cell(8, 7, 2), 0);
        crowd.setGoal(1, 2, 0);
        crowd.tick(3);
        Check.same("3: passes of the goal", crowd.cell(2, 0, 2), 1);
        Check.same("3: passes of the first cell", crowd.cell(2, 3, 2), 0);
        Check.same("3: agent that came", crowd.cell(2, 0, 1), 0);
        Check.same("3: agent that went", crowd.cell(2, 3, 1), -1);
    }

    private static void cellRefused() {
        for (int[] cell : new int[][] {{-1, 0}, {14, 0}, {0, -1}, {0, 10}, {LOW, LOW}, {HIGH, HIGH}}) {
            for (int what : new int[] {-1, 0, 1, 2, 3, 4}) {
                Check.outOfBounds("3: no cell", GridAndGoalsTest::furnished, c -> c.cell(cell[0], cell[1], what));
            }
        }
        for (int what : new int[] {-1, 4, LOW, HIGH}) {
            Check.badArgument("3: what " + what, GridAndGoalsTest::furnished, c -> c.cell(0, 0, what));
        }
    }

    private static void setGoal() {
        CrowdSimulator crowd = Check.onMap(SPLIT);
        Check.same("4: west of the wall", crowd.setGoal(0, 0, 0), 30);
        Check.same("4: east of the wall", crowd.setGoal(3, 13, 9), 100);
        crowd.setCell(3, 4, 9);
        Check.same("4: through a gap", crowd.setGoal(0, 1, 4), 131);
        Check.same("4: it has moved away", crowd.cell(0, 0, 3), -1);
        Check.same("4: it has moved here", crowd.cell(1, 4, 3), 0);
        Check.same("4: on an other goal", crowd.setGoal(1, 1, 4), 131);
        crowd.setCell(3, 4, 0);
        Check.same("4: gap closed", crowd.setGoal(2, 2, 2), 30);
        crowd.add(5, 5, 2, 1);
        Check.same("4: on an agent", crowd.setGoal(2, 5, 5), 100);
        Check.same("4: the agent is there", crowd.agent(0, 10), 1);
        CrowdSimulator closed = Check.onMap("1#/#");
        Check.same("4: alone", closed.setGoal(0, 0, 0), 1);
    }

    private static void setGoalRefused() {
        for (int goal : new int[] {-1, 4, LOW, HIGH}) {
            Check.outOfBounds("4: goal " + goal, GridAndGoalsTest::furnished, c -> c.setGoal(goal, 0, 0));
            Check.outOfBounds("4: goal and wall " + goal, GridAndGoalsTest::furnished, c -> c.setGoal(goal, 6, 7));
        }
        for (int[] cell : new int[][] {{-1, 0}, {14, 0}, {0, -1}, {0, 10}, {LOW, 0}, {0, HIGH}}) {
            Check.outOfBounds("4: no cell", GridAndGoalsTest::furnished, c -> c.setGoal(0, cell[0], cell[1]));
        }
        Check.badState("4: on a wall", GridAndGoalsTest::furnished, c -> c.setGoal(0, 6, 7));
        Check.badState("4: set goal to a wall", GridAndGoalsTest::furnished, c -> c.setGoal(1, 6, 7));
    }

    private static void dropGoal() {
        CrowdSimulator crowd = furnished();
        crowd.add(8, 0, 1, 0);
        crowd.add(9, 0, 2, 0);
        crowd.add(10, 0, -1, 0);
        crowd.join(1, 3, 1, 1);
        Check.same("5: a member counts", crowd.dropGoal(1), 2);
        Check.same("5: the goal is kept", crowd.agent(0, 2), 1);
        Check.same("5: the member keeps it", crowd.agent(1, 2), 1);
        Check.same("5: no target", crowd.agent(0, 7), -1);
        Check.same("5: settled", crowd.agent(0, 10), 1);
        Check.same("5: no goal there", crowd.cell(4, 5, 3), -1);
        crowd.setGoal(1, 0, 0);
        Check.same("5: a target again", Check.targetOf(crowd, 0), 0);
        crowd.setGoal(3, 0, 0);
        Check.same("5: nobody has it", crowd.dropGoal(3), 0);
        Check.same("5: the other goal stays", crowd.distance(1, 1, 0), 1);
        crowd.remove(0);
        Check.same("5: a removed agent does not count", crowd.dropGoal(1), 1);
    }

    private static void dropGoalRefused() {
        for (int goal : new int[] {-1, 4, LOW, HIGH}) {
            Check.outOfBounds("5: goal " + goal, GridAndGoalsTest::furnished, c -> c.dropGoal(goal));
        }
        Check.noElement("5: never set", GridAndGoalsTest::furnished, c -> c.dropGoal(0));
        Check.noElement("5: dropped before", () -> {
            CrowdSimulator crowd = furnished();
            crowd.dropGoal(1);
            return crowd;
        }, c -> c.dropGoal(1));
    }

    private static void distance() {
        CrowdSimulator crowd = Check.onMap("951/111/1#1/#11");
        crowd.setGoal(0, 2, 0);
        Check.same("6: itself", crowd.distance(0, 2, 0), 0);
        Check.same("6: round the dear cell, first cell not counted", crowd.distance(0, 0, 0), 4);
        Check.same("6: the dear cell itself", crowd.distance(0, 1, 0), 1);
        Check.same("6: a wall", crowd.distance(0, 1, 2), -1);
        crowd.setGoal(1, 1, 0);
        Check.same("6: the goal's own cost counts", crowd.distance(1, 1, 1), 5);
        Check.same("6: and from the east", crowd.distance(1, 3, 0), 6);
        Check.same("6: and through the corner", crowd.distance(1, 0, 0), 5);
        Check.same("6: the other goal is another", crowd.distance(0, 1, 1), 2);
        crowd.setCell(1, 0, 1);
        Check.same("6: a new cost", crowd.distance(0, 0, 0), 2);
        crowd.add(1, 0, -1, 9);
        Check.same("6: agents do not matter", crowd.distance(0, 0, 0), 2);
        crowd.setCell(0, 3, 1);
        crowd.setCell(0, 2, 0);
        crowd.setCell(1, 3, 0);
        crowd.setCell(0, 4, 0);
        Check.same("6: shut in", crowd.distance(0, 0, 3), -1);
        crowd.setGoal(3, 0, 3);
        Check.same("6: shut out", crowd.distance(3, 0, 0), -1);
        Check.same("6: shut in with it", crowd.distance(3, 0, 3), 0);
        Check.same("6: the longest way", longest().distance(0, 12, 9), 9 * 75);
    }

    /** One way of 76 cells of cost 9 that winds through the columns 0, 2, 4 .. 12; goal 0 is its first cell. */
    private static CrowdSimulator longest() {
        CrowdSimulator crowd = Check.onMap("9#999#999#999#" + "/9#9#9#9#9#9#9#".repeat(8) + "/999#999#999#9#");
        crowd.setGoal(0, 0, 0);
        return crowd;
    }

    private static void flow() {
        CrowdSimulator crowd = empty();
        crowd.setGoal(2, 5, 5);
        int[][] due = {{5, 5, -1}, {5, 6, 0}, {4, 5, 1}, {5, 4, 2}, {6, 5, 3},
            {4, 6, 0}, {6, 6, 0}, {4, 4, 1}, {6, 4, 2}, {0, 0, 1}, {13, 9, 0}, {13, 0, 2}, {0, 9, 0}};
        for (int[] row : due) {
            Check.same("7: from " + row[0] + ", " + row[1], crowd.flow(2, row[0], row[1]), row[2]);
        }
        crowd.setCell(4, 4, 3);
        Check.same("7: past the dear cell", crowd.flow(2, 4, 3), 1);
        Check.same("7: a dear cell's own way", crowd.flow(2, 4, 4), 1);
        Check.same("7: dear cells are left", crowd.flow(2, 3, 4), 2);
        crowd.setCell(4, 5, 0);
        Check.same("7: round a wall", crowd.flow(2, 3, 5), 2);
        Check.same("7: a wall", crowd.flow(2, 4, 5), -1);
        crowd.add(5, 6, -1, 9);
        Check.same("7: agents do not matter", crowd.flow(2, 5, 7), 0);
        CrowdSimulator cut = Check.onMap(SPLIT);
        cut.setGoal(0, 0, 0);
        Check.same("7: no way", cut.flow(0, 13, 0), -1);
        Check.same("7: a way", cut.flow(0, 2, 9), 0);
    }

    private static void steps() {
        CrowdSimulator crowd = empty();
        crowd.setGoal(0, 2, 0);
        Check.same("8: itself", crowd.steps(0, 2, 0), 0);
        Check.same("8: across the grid", crowd.steps(0, 13, 9), 20);
        crowd.setCell(1, 0, 5);
        Check.same("8: round", crowd.steps(0, 0, 0), 4);
        crowd.setCell(1, 0, 3);
        Check.same("8: of two as dear ways the one of the flow", crowd.steps(0, 0, 0), 2);
        Check.same("8: whose distance is", crowd.distance(0, 0, 0), 4);
        crowd.setCell(0, 1, 0);
        crowd.setCell(1, 0, 0);
        Check.same("8: no way", crowd.steps(0, 0, 0), -1);
        Check.same("8: a wall", crowd.steps(0, 0, 1), -1);
        Check.same("8: the longest way", longest().steps(0, 12, 9), 75);
    }

    private static void fieldsRefused() {
        for (int goal : new int[] {-1, 4, LOW, HIGH}) {
            Check.outOfBounds("6: goal " + goal, GridAndGoalsTest::furnished, c -> c.distance(goal, 0, 0));
            Check.outOfBounds("7: goal " + goal, GridAndGoalsTest::furnished, c -> c.flow(goal, 0, 0));
            Check.outOfBounds("8: goal " + goal, GridAndGoalsTest::furnished, c -> c.steps(goal, 0, 0));
        }
        for (int[] cell : new int[][] {{-1, 0}, {14, 0}, {0, -1}, {0, 10}, {LOW, 0}, {0, HIGH}}) {
            for (int goal = 0; goal < 2; goal++) {
                int asked = goal;
                Check.outOfBounds("6: no cell", GridAndGoalsTest::furnished, c -> c.distance(asked, cell[0], cell[1]));
                Check.outOfBounds("7: no cell", GridAndGoalsTest::furnished, c -> c.flow(asked, cell[0], cell[1]));
                Check.outOfBounds("8: no cell", GridAndGoalsTest::furnished, c -> c.steps(asked, cell[0], cell[1]));
            }
        }
        Check.noElement("6: not set", GridAndGoalsTest::furnished, c -> c.distance(0, 0, 0));
        Check.noElement("7: not set", GridAndGoalsTest::furnished, c -> c.flow(2, 6, 7));
        Check.noElement("8: not set", GridAndGoalsTest::furnished, c -> c.steps(3, 0, 0));
    }

    private static void setPatience() {
        CrowdSimulator crowd = empty();
        Check.same("9: at first", crowd.setPatience(0), 3);
        Check.same("9: then", crowd.setPatience(9), 0);
        Check.same("9: the same again", crowd.setPatience(9), 9);
        for (int patience : new int[] {-1, 10, LOW, HIGH}) {
            Check.badArgument("9: patience " + patience, GridAndGoalsTest::furnished, c -> c.setPatience(patience));
        }
    }
}
