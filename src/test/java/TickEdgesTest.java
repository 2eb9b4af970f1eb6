/** Promises 18 to 21: a test for each sentence that names a boundary case of ticks, forecasts and the bottleneck. */
public final class TickEdgesTest {
    private static final int LOW = Integer.MIN_VALUE;
    private static final int HIGH = Integer.MAX_VALUE;

    public static void main(String[] args) {
        numberOfTicks();
        timeAtFirst();
        emptyTicks();
        descendingPriorities();
        ascendingNumbers();
        settledWaits();
        noDistance();
        lowerPriority();
        pushedOnceInATick();
        pushedIfItCanBe();
        pushedByDirections();
        pushedWithoutDistance();
        pushedFarAway();
        pushedDoNothingMore();
        twoPushedInATick();
        waitsAndHeadingsOfThePushed();
        settledArePushed();
        atLeastThePatience();
        waitBeforeThisTurn();
        atMostTwoMore();
        detoursByDirections();
        noDetourLeft();
        cellsOutside();
        ownTurnEndsTheWait();
        passesOfAll();
        whatOfStatistics();
        movesOfTheThirdSort();
        forecastOfTheSettled();
        forecastOfAHundred();
        forecastAtTheEndOfATick();
        forecastOfTheFirstTime();
        forecastChangesNothing();
        noPasses();
        firstOfSeveralCells();
        Check.end("TickEdgesTest");
    }

    // ---- time and turns

    private static void numberOfTicks() {
        Check.sentence("the number of ticks, 1 to 50");
        for (int ticks = 1; ticks < 51; ticks++) {
            Check.same("18: ticks", new CrowdSimulator().tick(ticks), ticks);
        }
        for (int ticks : new int[] {0, 51, -1, 100, LOW, HIGH}) {
            Check.badArgument("18: ticks " + ticks, Scenes::lively, c -> c.tick(ticks));
        }
    }

    private static void timeAtFirst() {
        Check.sentence("In a tick, the time, at first 0, increases by 1.");
        CrowdSimulator crowd = new CrowdSimulator();
        Check.same("19: at first", crowd.statistic(0), 0);
        Check.same("18: one", crowd.tick(1), 1);
        Check.same("18: fifty more", crowd.tick(50), 51);
        Check.same("18: two more", crowd.tick(2), 53);
        Check.same("19: then", crowd.statistic(0), 53);
    }

    private static void emptyTicks() {
        Check.sentence("Makes ticks.");
        CrowdSimulator none = new CrowdSimulator();
        none.tick(50);
        Check.counted("18: without agents", none, 0, 0, 0, 0);
        CrowdSimulator full = Scenes.full();
        full.tick(50);
        Check.counted("18: sixteen that are settled", full, 0, 0, 0, 0);
        for (int agent = 0; agent < 16; agent++) {
            Check.state("18: sixteen that are settled", full, agent, 100 * (agent / 8) + agent % 8, 0, 0);
        }
    }

    /** Ten agents one behind the other that go east, after a tick; agent 0 is the front one, or the rear one. */
    private static CrowdSimulator convoy(boolean isZeroInFront, int firstPriority, int step) {
        CrowdSimulator crowd = Scenes.corridor();
        crowd.setGoal(0, 13, 0);
        for (int i = 0; i < 10; i++) {
            crowd.add(isZeroInFront ? 9 - i : i, 0, 0, firstPriority + i * step);
        }
        crowd.tick(1);
        return crowd;
    }

    /** If the rear has the highest priority, all wait but the last but one, who pushes the front one. */
    private static void descendingPriorities() {
        Check.sentence("Then the agents have their turns in descending order of priority");
        Check.counted("18: the front has the highest, and the last number", convoy(false, 0, 1), 10, 0, 0, 0);
        Check.counted("18: the front has the highest, and the first number", convoy(true, 9, -1), 10, 0, 0, 0);
        Check.counted("18: the rear has the highest, and the last number", convoy(true, 0, 1), 1, 1, 0, 8);
        Check.counted("18: the rear has the highest, and the first number", convoy(false, 9, -1), 1, 1, 0, 8);
    }

    private static void ascendingNumbers() {
        Check.sentence("those with the same priority in ascending order of numbers");
        for (int priority = 0; priority < 10; priority += 3) {
            Check.counted("18: the front has the first number", convoy(true, priority, 0), 10, 0, 0, 0);
            Check.counted("18: the rear has the first number", convoy(false, priority, 0), 1, 0, 0, 9);
        }
    }

    private static void settledWaits() {
        Check.sentence("but if it is settled, its wait becomes 0");
        CrowdSimulator crowd = Scenes.waiting(4, 505, 507, 509);
        crowd.change(0, true, -1);
        crowd.change(1, true, 3);
        crowd.setGoal(2, 9, 5);
        crowd.change(2, true, 2);
        for (int agent = 0; agent < 3; agent++) {
            Check.same("18: before its turn", crowd.agent(agent, 5), 4);
        }
        crowd.tick(1);
        Check.state("18: without a goal", crowd, 0, 505, 0, 0);
        Check.state("18: its goal is not set", crowd, 1, 507, 0, 0);
        Check.state("18: on its goal", crowd, 2, 509, 0, 0);
        crowd.change(0, true, 0);
        crowd.tick(1);
        Check.state("18: and it waits again", crowd, 0, 505, 0, 1);
    }

    private static void noDistance() {
        Check.sentence("if there is none, its wait increases by 1, and its turn is over");
        for (int patience = 0; patience < 10; patience += 9) {
            CrowdSimulator crowd = Scenes.waiting(1, 505);
            crowd.setPatience(patience);
            crowd.tick(50);
            Check.state("18: no way, patience " + patience, crowd, 0, 505, 0, 51);
            Check.counted("18: no way, patience " + patience, crowd, 0, 0, 0, 51);
        }
        CrowdSimulator besides = Check.onMap("1#/#");
        besides.setGoal(0, 0, 0);
        besides.setPatience(0);
        besides.add(1, 1, 0, 9);
        besides.add(2, 1, -1, 0);
        besides.tick(1);
        Check.state("18: nobody is pushed without a way", besides, 1, 102, 0, 0);
        Check.state("18: by one that waits", besides, 0, 101, 0, 1);
    }

    // ---- pushing

    private static void lowerPriority() {
        Check.sentence("Second, if there is an agent there with a lower priority");
        for (int own = 0; own < 10; own++) {
            for (int other = 0; other < 10; other++) {
                CrowdSimulator crowd = Scenes.corridor();
                crowd.setGoal(0, 13, 0);
                crowd.add(3, 0, 0, own);
                crowd.add(4, 0, -1, other);
                crowd.tick(1);
                boolean isLower = other < own;
                String what = "18: " + own + " before " + other;
                Check.state(what, crowd, 0, isLower ? 4 : 3, isLower ? 1 : 0, isLower ? 0 : 1);
                Check.state(what, crowd, 1, isLower ? 5 : 4, isLower ? 1 : 0, 0);
                Check.counted(what, crowd, isLower ? 1 : 0, isLower ? 1 : 0, 0, isLower ? 0 : 1);
            }
        }
    }

    /** Agent 0 pushes agent 1 to (5, 0), where agent 2 wants to go; (5, 1) is free. */
    private static void pushedOnceInATick() {
        Check.sentence("that has not had its turn and was not pushed in this tick");
        CrowdSimulator crowd = Check.onMap("/#####1########/##############");
        crowd.setGoal(0, 13, 0);
        crowd.setGoal(1, 0, 0);
        crowd.add(3, 0, 0, 9);
        crowd.add(4, 0, -1, 1);
        crowd.add(6, 0, 1, 8);
        crowd.tick(1);
        Check.state("18: pushed once", crowd, 1, 5, 1, 0);
        Check.state("18: the second pusher waits", crowd, 2, 6, 0, 1);
        Check.counted("18: one push", crowd, 1, 1, 0, 1);
        crowd.tick(1);
        Check.state("18: pushed again in the next tick", crowd, 1, 105, 2, 0);
        Check.state("18: by the first pusher", crowd, 0, 5, 1, 0);
        Check.state("18: so that the second one waits", crowd, 2, 6, 0, 2);
        Check.counted("18: two pushes", crowd, 2, 2, 0, 2);
    }

    private static void pushedIfItCanBe() {
        Check.sentence("this one is pushed aside, if it can be: of the neighbors of its cell that are no walls and"
            + " without agents");
        CrowdSimulator walls = Scenes.crossing(-1);
        walls.setCell(5, 4, 0);
        walls.setCell(6, 5, 0);
        walls.setCell(5, 6, 0);
        walls.setGoal(0, 5, 5);
        walls.tick(1);
        Check.state("18: between walls", walls, 1, 505, 0, 0);
        Check.state("18: in vain", walls, 0, 504, 0, 1);
        Check.counted("18: in vain", walls, 0, 0, 0, 1);
        CrowdSimulator agents = Scenes.crossing(-1);
        agents.add(5, 4, -1, 0);
        agents.add(6, 5, -1, 0);
        agents.add(5, 6, -1, 0);
        agents.tick(1);
        Check.state("18: between agents", agents, 1, 505, 0, 0);
        Check.counted("18: between agents", agents, 0, 0, 0, 1);
        agents.remove(4);
        agents.tick(1);
        Check.state("18: one of them is gone", agents, 1, 605, 2, 0);
        Check.counted("18: one of them is gone", agents, 1, 1, 0, 1);
    }

    private static void pushedByDirections() {
        Check.sentence("of several, to the first one in the order of directions");
        int[] due = {405, 506, 605};
        for (int direction = 0; direction < 3; direction++) {
            CrowdSimulator crowd = Scenes.crossing(-1);
            crowd.setGoal(0, 5, 5);
            for (int before = 0; before < direction; before++) {
                crowd.setCell(due[before] % 100, due[before] / 100, 0);
            }
            crowd.tick(1);
            Check.state("18: free from direction " + direction + " on", crowd, 1, due[direction], direction, 0);
            Check.state("18: the pusher by direction " + direction, crowd, 0, 505, 1, 0);
        }
        CrowdSimulator west = Check.onMap("###/111/###");
        west.setGoal(0, 1, 1);
        west.add(2, 1, 0, 5);
        west.add(1, 1, -1, 0);
        west.tick(1);
        Check.state("18: to the west", west, 1, 100, 3, 0);
        Check.state("18: the pusher", west, 0, 101, 3, 0);
    }

    private static void pushedWithoutDistance() {
        Check.sentence("neighbors without such a distance, or any if it has no target, counting as 9999");
        for (int goal = -1; goal < 4; goal += 2) {
            CrowdSimulator crowd = Scenes.crossing(goal);
            crowd.setGoal(1, 0, 0);
            crowd.setCell(1, 0, 0);
            crowd.setCell(0, 1, 0);
            crowd.tick(1);
            Check.state("18: goal " + goal + ", to the first", crowd, 1, 405, 0, 0);
            crowd.undo();
            crowd.setCell(5, 4, 0);
            crowd.tick(1);
            Check.state("18: goal " + goal + ", to the second", crowd, 1, 506, 1, 0);
        }
    }

    /** A push is not bound to the two more that a detour may cost. */
    private static void pushedFarAway() {
        Check.sentence("it moves to the one with the least distance from its own target");
        CrowdSimulator crowd = Scenes.corridor();
        crowd.setGoal(0, 13, 0);
        crowd.setGoal(1, 0, 0);
        crowd.setCell(4, 0, 9);
        crowd.add(3, 0, 0, 9);
        crowd.add(4, 0, 1, 0);
        crowd.tick(1);
        Check.state("18: away from its target by 9", crowd, 1, 5, 1, 0);
        Check.same("18: its distance", crowd.agent(1, 9), 13);
    }

    private static void pushedDoNothingMore() {
        Check.sentence("In its turn, an agent that was pushed in this tick, or is settled, does nothing");
        CrowdSimulator crowd = Scenes.crossing(1);
        crowd.setGoal(1, 5, 0);
        crowd.tick(1);
        Check.state("18: pushed toward its target", crowd, 1, 405, 0, 0);
        Check.counted("18: one move and one push", crowd, 1, 1, 0, 0);
        crowd.tick(1);
        Check.state("18: in the next tick it goes on", crowd, 1, 305, 0, 0);
        Check.counted("18: two moves more", crowd, 3, 1, 0, 0);
    }

    private static void twoPushedInATick() {
        Check.sentence("In its turn, an agent that was pushed in this tick, or is settled, does nothing");
        CrowdSimulator crowd = Scenes.crossing(1);
        crowd.setGoal(1, 5, 0);
        crowd.setGoal(2, 13, 8);
        crowd.setGoal(3, 10, 1);
        crowd.add(9, 8, 2, 9);
        crowd.add(10, 8, 3, 0);
        crowd.tick(1);
        Check.state("18: the first one pushed", crowd, 1, 405, 0, 0);
        Check.state("18: the second one pushed", crowd, 3, 710, 0, 0);
        Check.counted("18: two moves and two pushes", crowd, 2, 2, 0, 0);
    }

    private static void waitsAndHeadingsOfThePushed() {
        Check.sentence("A pushed agent that is settled in its turn gets the wait 0, another pushed one keeps its wait; a"
            + " pushed one gets the direction of its push as its heading.");
        CrowdSimulator crowd = Check.onMap("11111111111111/##############/1#/#");
        crowd.setGoal(0, 13, 0);
        crowd.setGoal(1, 0, 2);
        crowd.add(0, 0, -1, 9);
        crowd.add(1, 0, 1, 0);
        crowd.tick(3);
        crowd.change(0, true, 0);
        crowd.tick(1);
        Check.state("18: not settled, keeps its wait", crowd, 1, 2, 1, 3);
        crowd.setGoal(1, 3, 0);
        crowd.tick(1);
        Check.state("18: pushed onto its target", crowd, 1, 3, 1, 0);
        Check.counted("18: no wait increased by a push", crowd, 2, 2, 0, 3);
    }

    private static void settledArePushed() {
        Check.sentence("Settled agents can be pushed, too.");
        CrowdSimulator crowd = Scenes.crossing(1);
        crowd.setGoal(1, 5, 5);
        Check.same("13: settled before", crowd.agent(1, 10), 1);
        crowd.tick(1);
        Check.state("18: pushed from its target", crowd, 1, 405, 0, 0);
        Check.same("13: settled no more", crowd.agent(1, 10), 0);
        crowd.tick(2);
        Check.state("18: it comes back when the other one is past", crowd, 1, 505, 2, 0);
    }

    // ---- detours

    /** Agent 0 on its way along the corridor, behind agent 1 who stands and can not be pushed. */
    private static CrowdSimulator blocked(int patience) {
        CrowdSimulator crowd = Scenes.corridor();
        crowd.setPatience(patience);
        crowd.setGoal(0, 13, 0);
        crowd.add(1, 0, 0, 3);
        crowd.add(2, 0, -1, 3);
        return crowd;
    }

    private static void atLeastThePatience() {
        Check.sentence("Third, if the wait of the agent is at least its patience, a number from 0 to 9 that is the same"
            + " for all agents, at first 3");
        for (int patience = 0; patience < 10; patience++) {
            CrowdSimulator crowd = blocked(patience);
            if (patience > 0) {
                crowd.tick(patience);
            }
            Check.state("18: not yet by patience " + patience, crowd, 0, 1, 0, patience);
            crowd.tick(1);
            Check.state("18: at last by patience " + patience, crowd, 0, 0, 3, 0);
            Check.counted("18: by patience " + patience, crowd, 1, 0, 1, patience);
        }
        CrowdSimulator late = blocked(9);
        late.tick(8);
        late.setPatience(2);
        late.tick(1);
        Check.state("18: a wait of more than the patience", late, 0, 0, 3, 0);
        CrowdSimulator first = Scenes.corridor();
        first.setGoal(0, 13, 0);
        first.add(1, 0, 0, 3);
        first.add(2, 0, -1, 3);
        first.tick(3);
        Check.state("18: not yet by the first patience", first, 0, 1, 0, 3);
        first.tick(1);
        Check.state("18: at last by the first patience", first, 0, 0, 3, 0);
    }

    private static void waitBeforeThisTurn() {
        Check.sentence("The wait that is compared with the patience is the one before this turn.");
        CrowdSimulator crowd = blocked(1);
        crowd.tick(1);
        Check.state("18: a wait of 0 before the turn", crowd, 0, 1, 0, 1);
        crowd.tick(1);
        Check.state("18: a wait of 1 before the turn", crowd, 0, 0, 3, 0);
    }

    /** The only free neighbor is behind the agent: its distance is more by the cost of the agent's cell. */
    private static void atMostTwoMore() {
        Check.sentence("if this distance is at most d plus 2");
        for (int more = 1; more < 10; more++) {
            CrowdSimulator crowd = blocked(0);
            crowd.setCell(1, 0, more);
            crowd.tick(1);
            boolean isDone = more <= 2;
            Check.state("18: by " + more + " more", crowd, 0, isDone ? 0 : 1, isDone ? 3 : 0, isDone ? 0 : 1);
            Check.counted("18: by " + more + " more", crowd, isDone ? 1 : 0, 0, isDone ? 1 : 0, isDone ? 0 : 1);
        }
    }

    private static void detoursByDirections() {
        Check.sentence("it moves to the one with the least distance, of several to the first one in the order of"
            + " directions");
        CrowdSimulator crowd = Scenes.crossing(-1);
        crowd.setPatience(0);
        crowd.change(0, false, 0);
        crowd.tick(1);
        Check.state("18: north, south and west as far", crowd, 0, 404, 0, 0);
        crowd.undo();
        crowd.setCell(4, 4, 0);
        crowd.tick(1);
        Check.state("18: south and west as far", crowd, 0, 604, 2, 0);
        crowd.undo();
        crowd.setCell(4, 6, 0);
        crowd.tick(1);
        Check.state("18: west alone", crowd, 0, 503, 3, 0);
        CrowdSimulator nearer = Scenes.crossing(-1);
        nearer.setPatience(0);
        nearer.change(0, false, 0);
        nearer.setGoal(0, 6, 9);
        nearer.add(4, 4, -1, 0);
        nearer.tick(1);
        Check.state("18: the flow leads east, south is as near", nearer, 0, 604, 2, 0);
    }

    private static void noDetourLeft() {
        Check.sentence("of the neighbors without agents that are no walls and have a distance from its target");
        CrowdSimulator crowd = blocked(0);
        crowd.add(0, 0, -1, 3);
        crowd.tick(1);
        Check.state("18: between agents", crowd, 0, 1, 0, 1);
        crowd.remove(2);
        crowd.setCell(0, 0, 0);
        crowd.tick(1);
        Check.state("18: between an agent and walls", crowd, 0, 1, 0, 2);
        crowd.setCell(0, 0, 1);
        crowd.tick(1);
        Check.state("18: a free cell again", crowd, 0, 0, 3, 0);
        Check.counted("18: a free cell again", crowd, 1, 0, 1, 2);
    }

    private static void cellsOutside() {
        Check.sentence("Cells outside of the grid are neither walls nor free.");
        CrowdSimulator pushed = new CrowdSimulator();
        pushed.setCell(13, 1, 0);
        pushed.setGoal(0, 13, 0);
        pushed.add(12, 0, 0, 9);
        pushed.add(13, 0, -1, 0);
        pushed.tick(1);
        Check.state("18: a corner leaves no push", pushed, 1, 13, 0, 0);
        Check.state("18: its pusher", pushed, 0, 12, 0, 1);
        CrowdSimulator detour = Scenes.corridor();
        detour.setPatience(0);
        detour.setGoal(0, 13, 0);
        detour.add(0, 0, 0, 3);
        detour.add(1, 0, -1, 3);
        detour.tick(1);
        Check.state("18: a corner leaves no detour", detour, 0, 0, 0, 1);
        CrowdSimulator last = new CrowdSimulator();
        last.setCell(0, 8, 0);
        last.setGoal(0, 0, 9);
        last.add(1, 9, 0, 9);
        last.add(0, 9, -1, 0);
        last.tick(1);
        Check.state("18: nor does the last row", last, 1, 900, 0, 0);
    }

    // ---- what moves leave

    private static void ownTurnEndsTheWait() {
        Check.sentence("An agent that moves gets the direction as its heading, and if this is its own turn, its wait"
            + " becomes 0");
        CrowdSimulator crowd = blocked(9);
        crowd.tick(7);
        Check.state("18: before", crowd, 0, 1, 0, 7);
        crowd.remove(1);
        crowd.tick(1);
        Check.state("18: a move of the first sort", crowd, 0, 2, 1, 0);
        crowd.add(3, 0, -1, 3);
        crowd.tick(2);
        crowd.change(1, false, 0);
        crowd.tick(1);
        Check.state("18: a move of the second sort", crowd, 0, 3, 1, 0);
    }

    private static void passesOfAll() {
        Check.sentence("Pushed agents increase passes as others do; added ones do not");
        CrowdSimulator crowd = Scenes.crossing(-1);
        Check.same("3: by adding", crowd.cell(4, 5, 2) + crowd.cell(5, 5, 2), 0);
        crowd.tick(1);
        Check.same("3: by pushing", crowd.cell(5, 5, 2), 1);
        Check.same("3: by being pushed", crowd.cell(5, 4, 2), 1);
        Check.same("3: by leaving", crowd.cell(4, 5, 2), 0);
        CrowdSimulator detour = blocked(0);
        detour.tick(2);
        Check.same("3: by a detour", detour.cell(0, 0, 2), 1);
        Check.same("3: by coming back", detour.cell(1, 0, 2), 1);
        detour.tick(1);
        Check.same("3: by a second detour", detour.cell(0, 0, 2), 2);
    }

    private static void whatOfStatistics() {
        Check.sentence("0 the time; 1 the moves of agents in their own turns; 2 the agents that were pushed aside; 3 the"
            + " moves of the third sort, which are moves in own turns, too; 4 how often a wait increased");
        CrowdSimulator crowd = Scenes.corridor();
        for (int what = 0; what < 5; what++) {
            Check.same("19: at first, what " + what, crowd.statistic(what), 0);
        }
        crowd.setGoal(0, 6, 0);
        crowd.setPatience(2);
        crowd.add(0, 0, 0, 5);
        crowd.add(2, 0, -1, 4);
        crowd.add(5, 0, -1, 5);
        crowd.tick(6);
        // To column 3 by three moves and two pushes, then two waits, then back.
        int[] due = {6, 4, 2, 1, 2};
        for (int what = 0; what < 5; what++) {
            Check.same("19: then, what " + what, crowd.statistic(what), due[what]);
        }
        for (int what : new int[] {-1, 5, LOW, HIGH}) {
            Check.badArgument("19: what " + what, Scenes::lively, c -> c.statistic(what));
        }
    }

    private static void movesOfTheThirdSort() {
        Check.sentence("3 the moves of the third sort, which are moves in own turns, too");
        CrowdSimulator crowd = blocked(0);
        crowd.tick(1);
        Check.counted("19: one of the third sort", crowd, 1, 0, 1, 0);
        crowd.tick(1);
        Check.counted("19: one of the first sort", crowd, 2, 0, 1, 0);
        crowd.change(1, false, 2);
        crowd.tick(1);
        Check.counted("19: one of the second sort", crowd, 3, 1, 1, 0);
    }

    // ---- forecasts

    private static void forecastOfTheSettled() {
        Check.sentence("Returns the number of ticks, 0 if it is settled now.");
        CrowdSimulator crowd = Scenes.crossing(1);
        Check.same("20: its goal is not set", crowd.forecast(1), 0);
        crowd.change(1, true, -1);
        Check.same("20: no goal", crowd.forecast(1), 0);
        crowd.setGoal(1, 5, 5);
        crowd.change(1, true, 1);
        Check.same("20: on its goal, though it will be pushed", crowd.forecast(1), 0);
        crowd.setGoal(1, 5, 4);
        Check.same("20: one push away from its goal", crowd.forecast(1), 1);
        crowd.setGoal(2, 12, 5);
        crowd.add(13, 5, 2, 9);
        Check.same("20: one step away from its goal", crowd.forecast(2), 1);
    }

    private static void forecastOfAHundred() {
        Check.sentence("Throws NoSuchElementException if it is not settled after 100 ticks or fewer");
        Check.same("20: after 100", Scenes.heldUp(2).forecast(0), 100);
        Check.noElement("20: after 101", () -> Scenes.heldUp(1), c -> c.forecast(0));
        CrowdSimulator crowd = Scenes.heldUp(1);
        crowd.tick(1);
        Check.same("20: a tick later after 100", crowd.forecast(0), 100);
        crowd.tick(1);
        Check.same("20: and then after 99", crowd.forecast(0), 99);
        crowd.tick(50);
        crowd.tick(49);
        Check.same("20: at the end", crowd.forecast(0), 0);
        Check.noElement("20: never", () -> Scenes.waiting(1, 505), c -> c.forecast(0));
    }

    /** The member has its turn before its leader, so it is on its slot in each tick, until the leader goes on. */
    private static void forecastAtTheEndOfATick() {
        Check.sentence("An agent is settled in a forecast at the end of a tick.");
        CrowdSimulator crowd = new CrowdSimulator();
        crowd.setGoal(0, 8, 5);
        crowd.add(5, 5, 0, 1);
        crowd.add(4, 6, -1, 5);
        crowd.join(1, 0, 0, 1);
        Check.same("20: the member", crowd.forecast(1), 4);
        Check.same("20: the leader", crowd.forecast(0), 3);
        crowd.change(0, true, -1);
        Check.same("20: the member of a leader that stays", crowd.forecast(1), 1);
    }

    private static void forecastOfTheFirstTime() {
        Check.sentence("Returns after how many ticks an agent is settled for the first time, if nothing but ticks"
            + " happens.");
        CrowdSimulator crowd = Scenes.corridor();
        crowd.setGoal(0, 13, 0);
        crowd.setGoal(1, 6, 0);
        crowd.add(0, 0, 0, 9);
        crowd.add(8, 0, 1, 0);
        Check.same("20: there before it is pushed on", crowd.forecast(1), 2);
        crowd.tick(2);
        Check.same("20: it is there", crowd.forecast(1), 0);
        crowd.tick(4);
        Check.same("20: it was pushed on", Check.placeOf(crowd, 1), 7);
        Check.noElement("20: and does not come back", () -> {
            CrowdSimulator other = Scenes.corridor();
            other.setGoal(0, 13, 0);
            other.setGoal(1, 6, 0);
            other.add(6, 0, 0, 9);
            other.add(7, 0, 1, 0);
            return other;
        }, c -> c.forecast(1));
    }

    private static void forecastChangesNothing() {
        Check.sentence("Nothing changes.");
        for (int agent = 0; agent < 5; agent++) {
            CrowdSimulator crowd = Scenes.lively();
            int asked = agent;
            Check.thrownBy(() -> crowd.forecast(asked));
            Check.same("20: of agent " + agent, Check.allOf(crowd), Check.allOf(Scenes.lively()));
        }
        CrowdSimulator twice = Scenes.heldUp(2);
        twice.forecast(0);
        Check.same("20: twice", twice.forecast(0), 100);
        Check.same("19: the time", twice.statistic(0), 0);
    }

    // ---- the bottleneck

    private static void noPasses() {
        Check.sentence("Throws NoSuchElementException if no cell has passes");
        Check.noElement("21: no agents", CrowdSimulator::new, c -> c.bottleneck());
        Check.noElement("21: sixteen agents that were added", Scenes::full, c -> c.bottleneck());
        Check.noElement("21: ticks without moves", () -> Scenes.waiting(50, 505), c -> c.bottleneck());
        CrowdSimulator crowd = Scenes.crossing(-1);
        crowd.tick(1);
        Check.same("21: one tick", crowd.bottleneck(), 405);
        crowd.undo();
        Check.same("21: taken back", Check.thrownBy(crowd::bottleneck), "NoSuchElementException");
    }

    /** An agent that goes one step onto a cell. */
    private static void pass(CrowdSimulator crowd, int fromX, int fromY, int x, int y) {
        crowd.setGoal(0, x, y);
        int agent = crowd.add(fromX, fromY, 0, 0);
        crowd.tick(1);
        crowd.remove(agent);
    }

    private static void firstOfSeveralCells() {
        Check.sentence("Returns the cell with the most passes, of several the one with the lowest row, then the lowest"
            + " column.");
        CrowdSimulator crowd = new CrowdSimulator();
        pass(crowd, 12, 9, 13, 9);
        Check.same("21: the last cell", crowd.bottleneck(), 913);
        pass(crowd, 0, 8, 0, 9);
        Check.same("21: a lower column", crowd.bottleneck(), 900);
        pass(crowd, 12, 8, 13, 8);
        Check.same("21: a lower row, a higher column", crowd.bottleneck(), 813);
        pass(crowd, 1, 0, 0, 0);
        Check.same("21: the first cell", crowd.bottleneck(), 0);
        pass(crowd, 12, 9, 13, 9);
        Check.same("21: more passes", crowd.bottleneck(), 913);
        pass(crowd, 12, 8, 13, 8);
        Check.same("21: as many in a lower row", crowd.bottleneck(), 813);
        pass(crowd, 1, 0, 0, 0);
        Check.same("21: as many in the first cell", crowd.bottleneck(), 0);
    }
}
