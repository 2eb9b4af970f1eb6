/** Promises 1 to 9: a test for each sentence that names a boundary case of the grid, its fields and its goals. */
public final class GridEdgesTest {
    private static final int LOW = Integer.MIN_VALUE;
    private static final int HIGH = Integer.MAX_VALUE;
    private static final int[][] CORNERS = {{0, 0}, {13, 0}, {0, 9}, {13, 9}};
    /** Among them some that a row's end or the machine's numbers would bring round to a cell. */
    private static final int[][] OUTSIDE = {{-1, 0}, {14, 0}, {0, -1}, {0, 10}, {-1, 9}, {14, 9}, {13, -1}, {13, 10},
        {-1, 1}, {14, -1}, {-14, 1}, {28, -2}, {LOW, 0}, {HIGH, 9}, {0, LOW}, {13, HIGH}, {0, 306783379}};
    private static final int[] NO_GOALS = {-1, 4, LOW, HIGH};

    private interface CellCall {
        int on(CrowdSimulator crowd, int x, int y);
    }

    private interface GoalCall {
        int on(CrowdSimulator crowd, int goal);
    }

    private static final CellCall[] CELL_CALLS = {
        (c, x, y) -> c.setCell(x, y, 5), (c, x, y) -> c.cell(x, y, 0), (c, x, y) -> c.setGoal(3, x, y),
        (c, x, y) -> c.distance(0, x, y), (c, x, y) -> c.flow(0, x, y), (c, x, y) -> c.steps(0, x, y),
        (c, x, y) -> c.add(x, y, -1, 0)
    };

    private static final GoalCall[] GOAL_CALLS = {
        (c, goal) -> c.setGoal(goal, 7, 7), (c, goal) -> c.dropGoal(goal), (c, goal) -> c.distance(goal, 7, 7),
        (c, goal) -> c.flow(goal, 7, 7), (c, goal) -> c.steps(goal, 7, 7)
    };

    public static void main(String[] args) {
        gridAtFirst();
        goalsAtFirst();
        crowdAtFirst();
        columnsAndRows();
        outsideOfTheGrid();
        orderOfNeighbors();
        noNeighborsOutside();
        targetItself();
        costsButTheFirst();
        noWay();
        costsThatChange();
        flowOfTheTarget();
        goalNumbers();
        agentsDoNotMatter();
        costs();
        wallsNotOnAgentsOrGoals();
        passesStay();
        orderInSetCell();
        whatOfACell();
        lowestGoal();
        orderInCell();
        reachedCells();
        goalNotOnAWall();
        orderInSetGoal();
        holdersOfAGoal();
        membersHoldGoals();
        goalNotSet();
        orderInFields();
        stepsWhereTheFlowLeads();
        patience();
        Check.end("GridEdgesTest");
    }

    // ---- the grid

    private static void gridAtFirst() {
        Check.sentence("at first there are no walls, and all costs are 1");
        int[] due = {1, -1, 0, -1};
        for (int what = 0; what < 4; what++) {
            CrowdSimulator crowd = new CrowdSimulator();
            for (int cell = 0; cell < 140; cell++) {
                Check.same("1: number " + what + " of cell " + cell, crowd.cell(cell % 14, cell / 14, what), due[what]);
            }
        }
    }

    private static void goalsAtFirst() {
        Check.sentence("at first none is set");
        for (int goal = 0; goal < 4; goal++) {
            int asked = goal;
            for (int call = 1; call < GOAL_CALLS.length; call++) {
                GoalCall asking = GOAL_CALLS[call];
                Check.noElement("1: call " + call + " of goal " + goal, CrowdSimulator::new, c -> asking.on(c, asked));
            }
        }
    }

    private static void crowdAtFirst() {
        Check.sentence("Creates an empty grid.");
        CrowdSimulator crowd = new CrowdSimulator();
        for (int what = 0; what < 5; what++) {
            Check.same("1: agents " + what, crowd.agents(what), 0);
            Check.same("1: statistic " + what, crowd.statistic(what), 0);
        }
        Check.same("1: jams", crowd.jams(), 0);
        Check.same("1: density", crowd.density(), 0.0);
        Check.same("1: buffer", crowd.readMap(), 0);
        Check.arithmetic("1: mean distance", CrowdSimulator::new, c -> c.meanDistance());
        Check.noElement("1: bottleneck", CrowdSimulator::new, c -> c.bottleneck());
        Check.badState("1: undo", CrowdSimulator::new, c -> c.undo());
        Check.badState("1: restore", CrowdSimulator::new, c -> c.restore());
    }

    private static CrowdSimulator withGoal() {
        CrowdSimulator crowd = new CrowdSimulator();
        crowd.setGoal(0, 5, 5);
        return crowd;
    }

    private static void columnsAndRows() {
        Check.sentence("The grid has 14 columns, x from 0 to 13 from west to east, and 10 rows, y from 0 to 9"
            + " from north to south.");
        for (int[] corner : CORNERS) {
            for (int call = 0; call < CELL_CALLS.length; call++) {
                CellCall asking = CELL_CALLS[call];
                String thrown = Check.thrownBy(() -> asking.on(withGoal(), corner[0], corner[1]));
                Check.same("2: call " + call + " at a corner", thrown, "nothing");
            }
        }
        CrowdSimulator crowd = withGoal();
        crowd.setCell(13, 0, 7);
        crowd.setCell(0, 9, 8);
        Check.same("2: the end of the first row", crowd.map(13), '7');
        Check.same("2: the beginning of the last row", crowd.map(135), '8');
        Check.same("7: to the north-east corner", crowd.setGoal(1, 13, 0) + crowd.flow(1, 12, 0), 141);
        Check.same("7: to the south-west corner", crowd.setGoal(2, 0, 9) + crowd.flow(2, 0, 8), 142);
    }

    private static void outsideOfTheGrid() {
        Check.sentence("if there is no such cell");
        for (int[] cell : OUTSIDE) {
            for (int call = 0; call < CELL_CALLS.length; call++) {
                CellCall asking = CELL_CALLS[call];
                String what = "2: call " + call + " at " + cell[0] + ", " + cell[1];
                Check.outOfBounds(what, Scenes::lively, c -> asking.on(c, cell[0], cell[1]));
            }
        }
    }

    // ---- the fields

    /** Goals beside the cell, between two directions of the cell, and beyond a wall as far by both ways. */
    private static void orderOfNeighbors() {
        Check.sentence("The neighbors of a cell are those to the north, to the east, to the south and to the west, in"
            + " this order; these are the directions 0 to 3.");
        CrowdSimulator crowd = withGoal();
        int[][] due = {{5, 6, 0}, {4, 5, 1}, {5, 4, 2}, {6, 5, 3}, {4, 6, 0}, {6, 6, 0}, {4, 4, 1}, {6, 4, 2}};
        for (int[] row : due) {
            Check.same("7: from " + row[0] + ", " + row[1], crowd.flow(0, row[0], row[1]), row[2]);
        }
        crowd.setGoal(0, 6, 5);
        crowd.setGoal(1, 5, 6);
        crowd.setCell(5, 5, 0);
        Check.same("7: north as far as south", crowd.flow(0, 4, 5), 0);
        Check.same("7: east as far as west", crowd.flow(1, 5, 4), 1);
    }

    private static void noNeighborsOutside() {
        Check.sentence("Cells outside of the grid are no neighbors.");
        CrowdSimulator crowd = new CrowdSimulator();
        crowd.setGoal(0, 0, 1);
        Check.same("6: from a row's end to the next row's beginning", crowd.distance(0, 13, 0), 14);
        Check.same("6: from a row's end to its own beginning", crowd.distance(0, 13, 1), 13);
        Check.same("6: from a column's end to its beginning", crowd.distance(0, 0, 9), 8);
        for (int[] corner : CORNERS) {
            CrowdSimulator shut = new CrowdSimulator();
            shut.setCell(corner[0] == 0 ? 1 : 12, corner[1], 0);
            shut.setCell(corner[0], corner[1] == 0 ? 1 : 8, 0);
            Check.same("4: a corner that is shut", shut.setGoal(0, corner[0], corner[1]), 1);
        }
        int[][] edges = {{6, 0}, {13, 4}, {6, 9}, {0, 4}};
        for (int[] edge : edges) {
            CrowdSimulator shut = new CrowdSimulator();
            for (int[] beside : new int[][] {{0, -1}, {1, 0}, {0, 1}, {-1, 0}}) {
                Check.thrownBy(() -> shut.setCell(edge[0] + beside[0], edge[1] + beside[1], 0));
            }
            Check.same("4: an edge that is shut", shut.setGoal(0, edge[0], edge[1]), 1);
        }
    }

    private static void targetItself() {
        Check.sentence("it is 0 for t itself");
        for (int cost = 1; cost < 10; cost += 4) {
            CrowdSimulator crowd = withGoal();
            crowd.setCell(5, 5, cost);
            Check.same("6: itself by cost " + cost, crowd.distance(0, 5, 5), 0);
            Check.same("8: from itself by cost " + cost, crowd.steps(0, 5, 5), 0);
        }
    }

    private static void costsButTheFirst() {
        Check.sentence("the costs of all cells but the first one are added");
        CrowdSimulator crowd = Check.onMap("937");
        crowd.setGoal(0, 0, 0);
        crowd.setGoal(1, 2, 0);
        Check.same("6: to the first of three", crowd.distance(0, 2, 0), 3 + 9);
        Check.same("6: to the last of three", crowd.distance(1, 0, 0), 3 + 7);
        CrowdSimulator dear = Check.onMap("99999999999999" + "/99999999999999".repeat(9));
        dear.setGoal(0, 0, 0);
        Check.same("6: from corner to corner by 9s", dear.distance(0, 13, 9), 22 * 9);
        CrowdSimulator cheap = new CrowdSimulator();
        cheap.setGoal(0, 0, 0);
        Check.same("6: from corner to corner by 1s", cheap.distance(0, 13, 9), 22);
    }

    private static void costsThatChange() {
        Check.sentence("The distance of a cell from a cell t that is no wall is the least sum of costs of a way from the"
            + " cell to t");
        CrowdSimulator crowd = new CrowdSimulator();
        crowd.setGoal(0, 0, 0);
        crowd.setGoal(1, 13, 9);
        distances("at first", crowd, 1, 1);
        crowd.setCell(13, 9, 9);
        distances("after setCell", crowd, 1, 9);
        Check.read(crowd, "7/////////11111111111115");
        distances("after readMap", crowd, 7, 5);
        crowd.save();
        crowd.undo();
        distances("after undo", crowd, 1, 9);
        crowd.restore();
        distances("after restore", crowd, 7, 5);
        crowd.setCell(0, 0, 2);
        distances("after setCell again", crowd, 2, 5);
    }

    /** Of the cells beside the first and the last one, from goals there. */
    private static void distances(String what, CrowdSimulator crowd, int first, int last) {
        Check.same("6: to the first cell " + what, crowd.distance(0, 1, 0), first);
        Check.same("6: to the last cell " + what, crowd.distance(1, 12, 9), last);
    }

    private static void noWay() {
        Check.sentence("A cell from which there is no way has no distance.");
        CrowdSimulator crowd = Check.onMap("1#/#");
        crowd.setGoal(0, 0, 0);
        crowd.setGoal(1, 13, 9);
        int[][] without = {{0, 1, 1}, {0, 13, 9}, {1, 0, 0}, {1, 1, 0}, {0, 1, 0}, {0, 0, 1}};
        for (int[] row : without) {
            String from = " from " + row[1] + ", " + row[2];
            Check.same("6: goal " + row[0] + from, crowd.distance(row[0], row[1], row[2]), -1);
            Check.same("7: goal " + row[0] + from, crowd.flow(row[0], row[1], row[2]), -1);
            Check.same("8: goal " + row[0] + from, crowd.steps(row[0], row[1], row[2]), -1);
        }
        Check.same("6: shut in, itself", crowd.distance(0, 0, 0), 0);
        Check.same("6: past the corner", crowd.distance(1, 1, 1), 20);
    }

    private static void flowOfTheTarget() {
        Check.sentence("The flow of a cell that has a distance other than 0 is the first direction");
        CrowdSimulator crowd = withGoal();
        Check.same("7: of the goal", crowd.flow(0, 5, 5), -1);
        Check.same("7: of a neighbor", crowd.flow(0, 5, 6), 0);
        crowd.setGoal(0, 5, 6);
        Check.same("7: of the goal that it is now", crowd.flow(0, 5, 6), -1);
        Check.same("7: of the goal that it was", crowd.flow(0, 5, 5), 2);
    }

    private static CrowdSimulator withAllGoals() {
        CrowdSimulator crowd = new CrowdSimulator();
        for (int goal = 0; goal < 4; goal++) {
            crowd.setGoal(goal, 3 * goal, 2 * goal);
        }
        return crowd;
    }

    private static void goalNumbers() {
        Check.sentence("There are goals with numbers from 0 to 3");
        for (int call = 0; call < GOAL_CALLS.length; call++) {
            GoalCall asking = GOAL_CALLS[call];
            for (int goal = 0; goal < 4; goal++) {
                int asked = goal;
                String thrown = Check.thrownBy(() -> asking.on(withAllGoals(), asked));
                Check.same("4: call " + call + " of goal " + goal, thrown, "nothing");
            }
            for (int goal : NO_GOALS) {
                Check.outOfBounds("4: call " + call + " of goal " + goal, GridEdgesTest::withAllGoals,
                    c -> asking.on(c, goal));
            }
        }
    }

    private static void agentsDoNotMatter() {
        Check.sentence("Distances, flows and slots do not depend on where other agents are.");
        CrowdSimulator crowd = Scenes.corridor();
        crowd.setGoal(0, 0, 0);
        for (int x = 0; x < 14; x++) {
            crowd.add(x, 0, -1, 9);
        }
        Check.same("4: a corridor full of agents", crowd.setGoal(1, 13, 0), 14);
        Check.same("6: through all of them", crowd.distance(0, 13, 0), 13);
        Check.same("7: over the next of them", crowd.flow(0, 13, 0), 3);
        Check.same("8: past all of them", crowd.steps(0, 13, 0), 13);
        crowd.join(0, 13, -2, 0);
        Check.same("13: a slot with an agent on it", Check.targetOf(crowd, 0), 11);
    }

    // ---- setCell and cell

    private static void costs() {
        Check.sentence("Throws IllegalArgumentException if the cost is not from 0 to 9");
        CrowdSimulator crowd = new CrowdSimulator();
        int previous = 1;
        for (int cost : new int[] {0, 0, 1, 2, 3, 4, 5, 6, 7, 8, 9, 9, 0}) {
            Check.same("2: the cost before " + cost, crowd.setCell(4, 4, cost), previous);
            Check.same("2: the cost " + cost, crowd.cell(4, 4, 0), cost);
            previous = cost;
        }
        for (int cost : new int[] {-1, 10, LOW, HIGH}) {
            Check.badArgument("2: cost " + cost, Scenes::lively, c -> c.setCell(4, 4, cost));
        }
    }

    /** Agent 0 on (2, 2) with goal 0 on (3, 3); goal 3 on (4, 4) with agent 1. */
    private static CrowdSimulator furnished() {
        CrowdSimulator crowd = new CrowdSimulator();
        crowd.setGoal(0, 3, 3);
        crowd.setGoal(3, 4, 4);
        crowd.add(2, 2, 0, 0);
        crowd.add(4, 4, -1, 0);
        return crowd;
    }

    private static void wallsNotOnAgentsOrGoals() {
        Check.sentence("Throws IllegalStateException if it becomes a wall, and an agent or a goal is on it");
        for (int cell = 2; cell < 5; cell++) {
            int at = cell;
            Check.badState("2: a wall on " + at, GridEdgesTest::furnished, c -> c.setCell(at, at, 0));
            CrowdSimulator crowd = furnished();
            Check.same("2: cost 1 on " + at, crowd.setCell(at, at, 1), 1);
            Check.same("2: cost 9 on " + at, crowd.setCell(at, at, 9), 1);
        }
        for (int goal = 0; goal < 4; goal++) {
            int asked = goal;
            Check.badState("2: a wall on goal " + goal, GridEdgesTest::withAllGoals,
                c -> c.setCell(3 * asked, 2 * asked, 0));
        }
        Check.badState("2: a wall on agent 15", Scenes::full, c -> c.setCell(7, 1, 0));
        CrowdSimulator crowd = furnished();
        crowd.remove(1);
        Check.same("2: the goal is still there", Check.thrownBy(() -> crowd.setCell(4, 4, 0)), "IllegalStateException");
        crowd.dropGoal(3);
        Check.same("2: nothing is there any more", crowd.setCell(4, 4, 0), 1);
        crowd.setGoal(0, 0, 0);
        Check.same("2: the goal has moved away", crowd.setCell(3, 3, 0), 1);
        crowd.tick(1);
        Check.same("2: the agent has moved away", crowd.setCell(2, 2, 0), 1);
    }

    private static void passesStay() {
        Check.sentence("passes stay when a cell changes");
        CrowdSimulator crowd = furnished();
        crowd.tick(2);
        crowd.remove(0);
        crowd.dropGoal(0);
        for (int cost : new int[] {0, 9, 0, 1}) {
            crowd.setCell(3, 3, cost);
            Check.same("3: passes by cost " + cost, crowd.cell(3, 3, 2), 1);
        }
        Check.read(crowd, "///###5");
        Check.same("3: passes after a map", crowd.cell(3, 3, 2), 1);
    }

    private static void orderInSetCell() {
        Check.sentence("If several exceptions apply, the one named first is thrown.");
        for (int[] cell : OUTSIDE) {
            Check.outOfBounds("2: no cell, cost -1", Scenes::lively, c -> c.setCell(cell[0], cell[1], -1));
            Check.outOfBounds("2: no cell, cost 10", Scenes::lively, c -> c.setCell(cell[0], cell[1], 10));
        }
        Check.badArgument("2: cost 10 on an agent", GridEdgesTest::furnished, c -> c.setCell(2, 2, 10));
        Check.badArgument("2: cost -1 on a goal", GridEdgesTest::furnished, c -> c.setCell(3, 3, -1));
    }

    private static void whatOfACell() {
        Check.sentence("0 its cost, or 0 for a wall; 1 the agent on it, -1 for none; 2 its passes; 3 the lowest goal"
            + " that it is, -1 for none");
        CrowdSimulator crowd = furnished();
        crowd.setCell(6, 6, 0);
        crowd.setCell(7, 7, 9);
        int[][] due = {{2, 2, 1, 0, 0, -1}, {3, 3, 1, -1, 0, 0}, {4, 4, 1, 1, 0, 3}, {6, 6, 0, -1, 0, -1},
            {7, 7, 9, -1, 0, -1}};
        for (int[] row : due) {
            for (int what = 0; what < 4; what++) {
                Check.same("3: number " + what + " of " + row[0], crowd.cell(row[0], row[1], what), row[2 + what]);
            }
        }
        Check.same("3: agent 15", Scenes.full().cell(7, 1, 1), 15);
        for (int what : new int[] {-1, 4, LOW, HIGH}) {
            Check.badArgument("3: what " + what, Scenes::lively, c -> c.cell(13, 9, what));
        }
    }

    private static void lowestGoal() {
        Check.sentence("3 the lowest goal that it is, -1 for none");
        CrowdSimulator crowd = new CrowdSimulator();
        for (int goal = 3; goal >= 0; goal--) {
            crowd.setGoal(goal, 0, 0);
            Check.same("3: with goal " + goal, crowd.cell(0, 0, 3), goal);
        }
        for (int goal = 0; goal < 4; goal++) {
            crowd.dropGoal(goal);
            Check.same("3: without goal " + goal, crowd.cell(0, 0, 3), goal == 3 ? -1 : goal + 1);
        }
    }

    private static void orderInCell() {
        Check.sentence("If several exceptions apply, the one named first is thrown.");
        for (int[] cell : OUTSIDE) {
            Check.outOfBounds("3: no cell, what -1", Scenes::lively, c -> c.cell(cell[0], cell[1], -1));
            Check.outOfBounds("3: no cell, what 4", Scenes::lively, c -> c.cell(cell[0], cell[1], 4));
        }
    }

    // ---- setGoal and dropGoal

    private static void reachedCells() {
        Check.sentence("Returns the number of cells that have a distance from it.");
        CrowdSimulator crowd = Check.onMap("1#/#");
        Check.same("4: itself alone", crowd.setGoal(0, 0, 0), 1);
        Check.same("4: all others that are no walls", crowd.setGoal(0, 13, 9), 137);
        Check.same("4: all", new CrowdSimulator().setGoal(3, 7, 7), 140);
        crowd.setCell(1, 0, 9);
        Check.same("4: all but a wall", crowd.setGoal(0, 0, 0), 139);
        Check.same("4: the same again", crowd.setGoal(0, 0, 0), 139);
    }

    /** A wall on (6, 7); goal 1 on (4, 5). */
    private static CrowdSimulator walled() {
        CrowdSimulator crowd = new CrowdSimulator();
        crowd.setCell(6, 7, 0);
        crowd.setGoal(1, 4, 5);
        return crowd;
    }

    private static void goalNotOnAWall() {
        Check.sentence("Throws IllegalStateException if the cell is a wall");
        Check.badState("4: goal 0, not set", GridEdgesTest::walled, c -> c.setGoal(0, 6, 7));
        Check.badState("4: goal 1, set before", GridEdgesTest::walled, c -> c.setGoal(1, 6, 7));
        CrowdSimulator crowd = walled();
        Check.thrownBy(() -> crowd.setGoal(1, 6, 7));
        Check.same("4: the goal is where it was", crowd.cell(4, 5, 3), 1);
        crowd.setCell(6, 7, 1);
        Check.same("4: no wall any more", crowd.setGoal(1, 6, 7), 140);
    }

    private static void orderInSetGoal() {
        Check.sentence("If several exceptions apply, the one named first is thrown.");
        for (int goal : NO_GOALS) {
            Check.outOfBounds("4: no goal, a wall", GridEdgesTest::walled, c -> c.setGoal(goal, 6, 7));
            Check.outOfBounds("4: no goal, no cell", GridEdgesTest::walled, c -> c.setGoal(goal, 14, 10));
        }
    }

    private static void holdersOfAGoal() {
        Check.sentence("Returns the number of agents that have it.");
        CrowdSimulator crowd = new CrowdSimulator();
        crowd.setGoal(0, 9, 9);
        crowd.setGoal(1, 9, 9);
        Check.same("5: no agents", crowd.dropGoal(0), 0);
        for (int agent = 0; agent < 16; agent++) {
            crowd.add(agent % 8, agent / 8, 1, 0);
        }
        crowd.setGoal(0, 9, 9);
        Check.same("5: none of sixteen", crowd.dropGoal(0), 0);
        Check.same("5: all sixteen", crowd.dropGoal(1), 16);
        crowd.change(3, true, -1);
        crowd.change(4, true, 0);
        crowd.remove(15);
        crowd.setGoal(1, 9, 9);
        Check.same("5: thirteen", crowd.dropGoal(1), 13);
    }

    private static void membersHoldGoals() {
        Check.sentence("Members that have a goal count when it is dropped, and keep it.");
        CrowdSimulator crowd = new CrowdSimulator();
        crowd.setGoal(2, 9, 9);
        crowd.add(0, 0, 2, 0);
        crowd.add(5, 5, -1, 0);
        crowd.join(0, 1, 1, 0);
        Check.same("5: a member alone", crowd.dropGoal(2), 1);
        Check.same("5: keeps it", crowd.agent(0, 2), 2);
        Check.same("5: its target is its slot", Check.targetOf(crowd, 0), 506);
        crowd.setGoal(2, 8, 8);
        crowd.leave(0);
        Check.same("5: it is its target again", Check.targetOf(crowd, 0), 808);
    }

    private static void goalNotSet() {
        Check.sentence("Throws NoSuchElementException if it is not set");
        Check.noElement("5: never set", Scenes::lively, c -> c.dropGoal(3));
        CrowdSimulator crowd = withAllGoals();
        crowd.dropGoal(2);
        for (int call = 1; call < GOAL_CALLS.length; call++) {
            GoalCall asking = GOAL_CALLS[call];
            String thrown = Check.thrownBy(() -> asking.on(crowd, 2));
            Check.same("5: dropped, call " + call, thrown, "NoSuchElementException");
        }
        Check.same("5: and again", crowd.setGoal(2, 1, 1), 140);
        Check.same("5: and again dropped", crowd.dropGoal(2), 0);
        crowd.undo();
        Check.same("5: taken back", crowd.dropGoal(2), 0);
        CrowdSimulator other = new CrowdSimulator();
        other.setGoal(0, 0, 0);
        other.undo();
        Check.same("5: its setting taken back", Check.thrownBy(() -> other.dropGoal(0)), "NoSuchElementException");
    }

    private static void orderInFields() {
        Check.sentence("If several exceptions apply, the one named first is thrown.");
        for (int[] cell : OUTSIDE) {
            Check.outOfBounds("6: no cell, not set", CrowdSimulator::new, c -> c.distance(0, cell[0], cell[1]));
            Check.outOfBounds("7: no cell, not set", CrowdSimulator::new, c -> c.flow(0, cell[0], cell[1]));
            Check.outOfBounds("8: no cell, not set", CrowdSimulator::new, c -> c.steps(0, cell[0], cell[1]));
        }
        Check.noElement("6: a wall, not set", GridEdgesTest::walled, c -> c.distance(0, 6, 7));
        Check.noElement("7: a wall, not set", GridEdgesTest::walled, c -> c.flow(0, 6, 7));
        Check.noElement("8: a wall, not set", GridEdgesTest::walled, c -> c.steps(0, 6, 7));
    }

    private static void stepsWhereTheFlowLeads() {
        Check.sentence("Returns how many steps the flow needs from a cell to a goal, if each step goes where the flow"
            + " leads.");
        CrowdSimulator crowd = Check.onMap("131/111");
        crowd.setGoal(0, 2, 0);
        Check.same("8: two dear steps are not more than four cheap ones", crowd.steps(0, 0, 0), 2);
        crowd.setCell(1, 0, 4);
        Check.same("8: four cheap steps are less than two dear ones", crowd.steps(0, 0, 0), 4);
        crowd.setGoal(0, 13, 9);
        Check.same("8: from corner to corner", crowd.steps(0, 0, 0), 22);
    }

    private static void patience() {
        Check.sentence("its patience, a number from 0 to 9 that is the same for all agents, at first 3");
        CrowdSimulator crowd = new CrowdSimulator();
        int previous = 3;
        for (int patience = 0; patience < 10; patience++) {
            Check.same("9: before " + patience, crowd.setPatience(patience), previous);
            previous = patience;
        }
        Check.same("9: the greatest", crowd.setPatience(0), 9);
        for (int patience : new int[] {-1, 10, LOW, HIGH}) {
            Check.badArgument("9: patience " + patience, Scenes::lively, c -> c.setPatience(patience));
        }
    }
}
