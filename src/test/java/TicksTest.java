/** Promises 18 and 19: what agents do in ticks, and what is counted of it. */
public final class TicksTest {
    private static final int LOW = Integer.MIN_VALUE;
    private static final int HIGH = Integer.MAX_VALUE;

    public static void main(String[] args) {
        time();
        orderOfTurns();
        goingAlongTheFlow();
        goingAroundDearCells();
        withoutAWay();
        settled();
        pushing();
        pushedTo();
        pushedByDistance();
        whoIsNotPushed();
        notPushedTwice();
        pushedBeforeItsTurn();
        waitsOfThePushed();
        pushedLeader();
        detours();
        detoursAreNotTooLong();
        patience();
        detourAfterVainPush();
        members();
        statistic();
        refused();
        Check.end("TicksTest");
    }

    private static void time() {
        CrowdSimulator crowd = new CrowdSimulator();
        Check.same("18: one tick", crowd.tick(1), 1);
        Check.same("18: fifty ticks", crowd.tick(50), 51);
        Check.same("18: the time", crowd.statistic(0), 51);
        Check.same("18: once more", crowd.tick(7), 58);
    }

    private static void orderOfTurns() {
        CrowdSimulator equal = Scenes.corridor();
        equal.setGoal(0, 1, 0);
        equal.add(2, 0, 0, 4);
        equal.add(0, 0, 0, 4);
        equal.tick(1);
        Check.state("18: the lower number first", equal, 0, 1, 3, 0);
        Check.state("18: the higher number then", equal, 1, 0, 0, 1);
        CrowdSimulator unequal = Scenes.corridor();
        unequal.setGoal(0, 1, 0);
        unequal.add(2, 0, 0, 4);
        unequal.add(0, 0, 0, 5);
        unequal.tick(1);
        Check.state("18: the higher priority first", unequal, 1, 1, 1, 0);
        Check.state("18: the lower priority then", unequal, 0, 2, 0, 1);
        CrowdSimulator row = Scenes.corridor();
        row.setGoal(0, 13, 0);
        row.add(0, 0, 0, 0);
        row.add(1, 0, 0, 9);
        row.tick(1);
        Check.state("18: the one in front first", row, 1, 2, 1, 0);
        Check.state("18: so the one behind follows", row, 0, 1, 1, 0);
        row.change(0, false, 9);
        row.tick(1);
        Check.state("18: the one behind first", row, 0, 1, 1, 1);
    }

    private static void goingAlongTheFlow() {
        CrowdSimulator crowd = new CrowdSimulator();
        crowd.setGoal(3, 3, 3);
        crowd.add(1, 4, 3, 0);
        int[] due = {301, 302, 303, 303};
        int[] headings = {0, 1, 1, 1};
        for (int i = 0; i < due.length; i++) {
            crowd.tick(1);
            Check.state("18: tick " + i, crowd, 0, due[i], headings[i], 0);
        }
        Check.same("18: passes of the start", crowd.cell(1, 4, 2), 0);
        Check.same("18: passes of the way", crowd.cell(1, 3, 2) + crowd.cell(2, 3, 2), 2);
        Check.same("18: passes of the goal", crowd.cell(3, 3, 2), 1);
        Check.counted("18: the way", crowd, 3, 0, 0, 0);
        crowd.setGoal(3, 3, 5);
        crowd.tick(2);
        Check.state("18: southward", crowd, 0, 503, 2, 0);
        crowd.setGoal(3, 2, 5);
        crowd.tick(1);
        Check.state("18: westward", crowd, 0, 502, 3, 0);
    }

    private static void goingAroundDearCells() {
        CrowdSimulator crowd = Check.onMap("191/111");
        crowd.setGoal(0, 2, 0);
        crowd.add(0, 0, 0, 0);
        crowd.tick(2);
        Check.state("18: round", crowd, 0, 101, 1, 0);
        crowd.tick(2);
        Check.state("18: there", crowd, 0, 2, 0, 0);
        Check.same("18: not over the dear cell", crowd.cell(1, 0, 2), 0);
    }

    private static void withoutAWay() {
        CrowdSimulator crowd = Check.onMap("1#/#");
        crowd.setPatience(0);
        crowd.setGoal(0, 0, 0);
        crowd.add(5, 5, 0, 0);
        crowd.tick(7);
        Check.state("18: no way", crowd, 0, 505, 0, 7);
        Check.counted("18: no way", crowd, 0, 0, 0, 7);
        crowd.setCell(1, 0, 1);
        crowd.tick(1);
        Check.state("18: a way", crowd, 0, 405, 0, 0);
        Check.counted("18: a way", crowd, 1, 0, 0, 7);
    }

    private static void settled() {
        CrowdSimulator crowd = Check.onMap("1#/#");
        crowd.setGoal(0, 0, 0);
        crowd.add(5, 5, 0, 0);
        crowd.add(6, 6, 0, 0);
        crowd.add(7, 7, 0, 0);
        crowd.tick(3);
        crowd.change(0, true, -1);
        crowd.change(1, true, 1);
        crowd.setGoal(2, 7, 7);
        crowd.change(2, true, 2);
        Check.same("18: the wait stays until the turn", crowd.agent(0, 5), 3);
        crowd.tick(1);
        Check.state("18: without a goal", crowd, 0, 505, 0, 0);
        Check.state("18: with a goal not set", crowd, 1, 606, 0, 0);
        Check.state("18: on its goal", crowd, 2, 707, 0, 0);
        Check.counted("18: settled", crowd, 0, 0, 0, 9);
    }

    private static void pushing() {
        CrowdSimulator crowd = Scenes.corridor();
        crowd.setGoal(0, 13, 0);
        crowd.add(3, 0, 0, 2);
        crowd.add(4, 0, -1, 1);
        crowd.tick(1);
        Check.state("18: the pusher", crowd, 0, 4, 1, 0);
        Check.state("18: the pushed", crowd, 1, 5, 1, 0);
        Check.same("18: the pushed one passes, too", crowd.cell(5, 0, 2), 1);
        Check.same("18: the pusher passes", crowd.cell(4, 0, 2), 1);
        Check.counted("18: a push", crowd, 1, 1, 0, 0);
        crowd.tick(8);
        Check.state("18: at the end the pushed one", crowd, 1, 13, 1, 0);
        Check.state("18: behind it the pusher", crowd, 0, 12, 1, 0);
        Check.counted("18: nine pushes", crowd, 9, 9, 0, 0);
        crowd.tick(1);
        Check.state("18: no push at the end", crowd, 0, 12, 1, 1);
        Check.counted("18: at the end", crowd, 9, 9, 0, 1);
    }

    private static void pushedTo() {
        CrowdSimulator crowd = Scenes.crossing(-1);
        crowd.tick(1);
        Check.state("18: no target, to the north", crowd, 1, 405, 0, 0);
        CrowdSimulator north = Scenes.crossing(3);
        north.setCell(5, 4, 0);
        north.tick(1);
        Check.state("18: goal not set, not on a wall", north, 1, 506, 1, 0);
        CrowdSimulator east = Scenes.crossing(-1);
        east.add(5, 4, -1, 9);
        east.add(6, 5, -1, 0);
        east.tick(1);
        Check.state("18: not on agents", east, 1, 605, 2, 0);
        CrowdSimulator shut = Scenes.crossing(-1);
        shut.setCell(5, 4, 0);
        shut.setCell(5, 6, 0);
        shut.add(6, 5, -1, 0);
        shut.tick(1);
        Check.state("18: nowhere", shut, 1, 505, 0, 0);
        Check.state("18: in vain", shut, 0, 504, 0, 1);
        Check.counted("18: in vain", shut, 0, 0, 0, 1);
        CrowdSimulator corner = new CrowdSimulator();
        corner.setGoal(0, 0, 0);
        corner.add(2, 0, 0, 5);
        corner.add(1, 0, -1, 4);
        corner.setCell(1, 1, 0);
        corner.tick(1);
        Check.state("18: to the west", corner, 1, 0, 3, 0);
        Check.state("18: after it", corner, 0, 1, 3, 0);
    }

    private static void pushedByDistance() {
        CrowdSimulator onward = Scenes.crossing(1);
        onward.setGoal(1, 9, 5);
        onward.tick(1);
        Check.state("18: to the least distance", onward, 1, 506, 1, 0);
        CrowdSimulator far = Scenes.crossing(1);
        far.setGoal(1, 13, 9);
        far.tick(1);
        Check.state("18: to the least of great distances", far, 1, 506, 1, 0);
        Check.counted("18: pushed far from its target", far, 1, 1, 0, 0);
        CrowdSimulator south = Scenes.crossing(1);
        south.setGoal(1, 5, 9);
        south.tick(1);
        Check.state("18: to the south", south, 1, 605, 2, 0);
        CrowdSimulator tie = Scenes.crossing(1);
        tie.setGoal(1, 8, 8);
        tie.tick(1);
        Check.state("18: of two the first direction", tie, 1, 506, 1, 0);
        CrowdSimulator back = Scenes.crossing(1);
        back.setGoal(1, 0, 5);
        back.tick(1);
        Check.state("18: where the least is farther away", back, 1, 405, 0, 0);
        CrowdSimulator dear = Scenes.crossing(1);
        dear.setGoal(1, 8, 8);
        dear.setCell(7, 5, 9);
        dear.setCell(6, 6, 9);
        dear.tick(1);
        Check.state("18: by the costs", dear, 1, 605, 2, 0);
        CrowdSimulator cut = Scenes.crossing(1);
        cut.setGoal(1, 0, 0);
        cut.setCell(1, 0, 0);
        cut.setCell(0, 1, 0);
        cut.tick(1);
        Check.state("18: no distance, to the north, and its wait", cut, 1, 405, 0, 0);
        CrowdSimulator half = Scenes.crossing(1);
        half.setGoal(1, 5, 9);
        half.setCell(5, 6, 0);
        half.add(6, 5, -1, 1);
        half.tick(1);
        Check.state("18: of one free cell", half, 1, 405, 0, 0);
    }

    private static void whoIsNotPushed() {
        for (int priority = 5; priority < 7; priority++) {
            CrowdSimulator crowd = Scenes.corridor();
            crowd.setGoal(0, 13, 0);
            crowd.add(3, 0, 0, 5);
            crowd.add(4, 0, -1, priority);
            crowd.tick(1);
            Check.state("18: not by priority " + priority, crowd, 0, 3, 0, 1);
            Check.state("18: not of priority " + priority, crowd, 1, 4, 0, 0);
            Check.counted("18: not pushed", crowd, 0, 0, 0, 1);
            crowd.change(1, false, 4);
            crowd.tick(1);
            Check.state("18: with less priority", crowd, 1, 5, 1, 0);
        }
    }

    /** Agent 0 pushes agent 1 to (2, 0), where agent 2 wants to go; (2, 1) is free. */
    private static void notPushedTwice() {
        CrowdSimulator crowd = Check.onMap("11111111111111/##1###########/##############");
        crowd.setGoal(0, 13, 0);
        crowd.setGoal(1, 0, 0);
        crowd.add(0, 0, 0, 9);
        crowd.add(1, 0, -1, 1);
        crowd.add(3, 0, 1, 8);
        crowd.tick(1);
        Check.state("18: pushed once", crowd, 1, 2, 1, 0);
        Check.state("18: the first pusher", crowd, 0, 1, 1, 0);
        Check.state("18: no second push", crowd, 2, 3, 0, 1);
        Check.counted("18: one push", crowd, 1, 1, 0, 1);
        crowd.tick(1);
        Check.state("18: pushed in the next tick", crowd, 1, 102, 2, 0);
        Check.state("18: the first pusher again", crowd, 0, 2, 1, 0);
        Check.state("18: blocked by the first", crowd, 2, 3, 0, 2);
    }

    private static void pushedBeforeItsTurn() {
        CrowdSimulator crowd = Scenes.crossing(1);
        crowd.setGoal(1, 5, 0);
        crowd.tick(1);
        Check.state("18: a pushed one does nothing more", crowd, 1, 405, 0, 0);
        Check.counted("18: one move, one push", crowd, 1, 1, 0, 0);
        crowd.tick(1);
        Check.state("18: but in the next tick", crowd, 1, 305, 0, 0);
        CrowdSimulator done = Scenes.corridor();
        done.setGoal(0, 13, 0);
        done.setGoal(1, 0, 0);
        done.add(5, 0, 0, 3);
        done.add(7, 0, 1, 2);
        done.tick(1);
        Check.state("18: the first of two", done, 0, 6, 1, 0);
        Check.state("18: waits for it", done, 1, 7, 0, 1);
        done.tick(1);
        Check.state("18: pushes back", done, 1, 8, 1, 1);
        Check.state("18: goes on", done, 0, 7, 1, 0);
    }

    private static void waitsOfThePushed() {
        CrowdSimulator crowd = Check.onMap("11111111111111/##############/1#/#");
        crowd.setGoal(0, 13, 0);
        crowd.setGoal(1, 0, 2);
        crowd.add(0, 0, 0, 9);
        crowd.add(2, 0, 1, 0);
        crowd.tick(1);
        Check.state("18: waits before", crowd, 1, 2, 0, 1);
        crowd.tick(1);
        Check.state("18: pushed, keeps its wait", crowd, 1, 3, 1, 1);
        crowd.setGoal(1, 4, 0);
        crowd.tick(1);
        Check.state("18: pushed onto its target", crowd, 1, 4, 1, 0);
        Check.state("18: the pusher", crowd, 0, 3, 1, 0);
        crowd.tick(1);
        Check.state("18: pushed from its target", crowd, 1, 5, 1, 0);
        Check.counted("18: waits", crowd, 4, 3, 0, 1);
    }

    /** The pusher follows the leader that it pushes; its move goes on to where the flow led before. */
    private static void pushedLeader() {
        CrowdSimulator crowd = new CrowdSimulator();
        crowd.add(5, 5, -1, 0);
        crowd.add(4, 5, -1, 5);
        crowd.join(1, 0, 1, 0);
        crowd.tick(1);
        Check.state("18: the pushed leader", crowd, 0, 405, 0, 0);
        Check.state("18: its pushing member", crowd, 1, 505, 1, 0);
        Check.same("18: the slot has moved", Check.targetOf(crowd, 1), 406);
        CrowdSimulator turned = Scenes.corridor();
        turned.add(5, 0, -1, 0);
        turned.add(4, 0, -1, 5);
        turned.join(1, 0, 3, 0);
        turned.tick(1);
        Check.state("18: the turned leader", turned, 0, 6, 1, 0);
        Check.same("18: the slot turns with the push", Check.targetOf(turned, 1), 306);
    }

    private static void detours() {
        CrowdSimulator crowd = new CrowdSimulator();
        crowd.setGoal(0, 9, 5);
        crowd.add(4, 5, 0, 3);
        crowd.add(5, 5, -1, 3);
        crowd.tick(3);
        Check.state("18: patient", crowd, 0, 504, 0, 3);
        Check.counted("18: patient", crowd, 0, 0, 0, 3);
        crowd.tick(1);
        Check.state("18: of three the first direction", crowd, 0, 404, 0, 0);
        Check.counted("18: a detour", crowd, 1, 0, 1, 3);
        Check.same("18: a detour passes", crowd.cell(4, 4, 2), 1);
        crowd.tick(2);
        Check.state("18: past the other", crowd, 0, 406, 1, 0);
        Check.counted("18: past the other", crowd, 3, 0, 1, 3);
        CrowdSimulator corner = new CrowdSimulator();
        corner.setPatience(0);
        corner.setGoal(0, 6, 7);
        corner.add(4, 5, 0, 3);
        corner.add(5, 5, -1, 3);
        corner.tick(1);
        Check.state("18: to the least distance", corner, 0, 604, 2, 0);
        CrowdSimulator shut = new CrowdSimulator();
        shut.setPatience(0);
        shut.setGoal(0, 9, 5);
        shut.setCell(4, 4, 0);
        shut.add(4, 5, 0, 3);
        shut.add(5, 5, -1, 3);
        shut.add(4, 6, -1, 3);
        shut.tick(1);
        Check.state("18: neither on walls nor on agents", shut, 0, 503, 3, 0);
        shut.setCell(3, 4, 0);
        shut.setCell(3, 6, 0);
        shut.setCell(2, 5, 0);
        shut.add(4, 5, -1, 9);
        shut.tick(1);
        Check.state("18: no free neighbor", shut, 0, 503, 3, 1);
    }

    /** The only free neighbor is behind the agent: its distance is more by the cost of the agent's cell. */
    private static void detoursAreNotTooLong() {
        for (int cost = 1; cost < 4; cost++) {
            CrowdSimulator crowd = Scenes.corridor();
            crowd.setPatience(0);
            crowd.setCell(1, 0, cost);
            crowd.setGoal(0, 13, 0);
            crowd.add(1, 0, 0, 3);
            crowd.add(2, 0, -1, 3);
            crowd.tick(1);
            boolean isTooLong = cost > 2;
            Check.state("18: back by cost " + cost, crowd, 0, isTooLong ? 1 : 0, isTooLong ? 0 : 3, isTooLong ? 1 : 0);
            Check.counted("18: back by cost " + cost, crowd, isTooLong ? 0 : 1, 0, isTooLong ? 0 : 1, isTooLong ? 1 : 0);
        }
    }

    private static void patience() {
        for (int patience = 0; patience < 10; patience++) {
            CrowdSimulator crowd = Scenes.corridor();
            crowd.setPatience(patience);
            crowd.setGoal(0, 13, 0);
            crowd.add(1, 0, 0, 3);
            crowd.add(2, 0, -1, 3);
            for (int i = 0; i < patience; i++) {
                crowd.tick(1);
            }
            Check.state("18: before the end of patience " + patience, crowd, 0, 1, 0, patience);
            crowd.tick(1);
            Check.state("18: behind the end of patience " + patience, crowd, 0, 0, 3, 0);
            crowd.setPatience(9);
            crowd.tick(2);
            Check.state("18: a new patience counts", crowd, 0, 1, 1, 1);
        }
    }

    private static void detourAfterVainPush() {
        CrowdSimulator crowd = Scenes.crossing(-1);
        crowd.setPatience(1);
        crowd.setCell(5, 4, 0);
        crowd.setCell(5, 6, 0);
        crowd.setCell(6, 5, 0);
        crowd.setGoal(0, 5, 5);
        crowd.tick(1);
        Check.state("18: a vain push", crowd, 0, 504, 0, 1);
        crowd.tick(1);
        Check.state("18: then a detour", crowd, 0, 404, 0, 0);
        Check.state("18: the other one", crowd, 1, 505, 0, 0);
        Check.counted("18: then a detour", crowd, 1, 0, 1, 1);
    }

    /** The slot is the one of the moment: before or after the leader's own turn. */
    private static void members() {
        for (int priority = 0; priority < 3; priority += 2) {
            CrowdSimulator crowd = new CrowdSimulator();
            crowd.setGoal(0, 9, 5);
            crowd.add(5, 5, 0, 1);
            crowd.add(5, 6, 0, priority);
            crowd.join(1, 0, 0, 1);
            crowd.tick(1);
            Check.state("18: the leader", crowd, 0, 506, 1, 0);
            int[] due = priority == 0 ? new int[] {505, 0, 0} : new int[] {605, 0, 0};
            Check.state("18: the member of priority " + priority, crowd, 1, due);
            Check.same("18: its slot", Check.targetOf(crowd, 1), 505);
            Check.same("18: moves with priority " + priority, crowd.statistic(1), priority == 0 ? 2 : 1);
        }
        CrowdSimulator wall = Scenes.corridor();
        wall.add(3, 0, -1, 1);
        wall.add(5, 0, -1, 1);
        wall.join(1, 0, 0, 1);
        wall.tick(3);
        Check.state("18: to the leader, as the slot is a wall", wall, 1, 4, 3, 2);
        Check.state("18: a leader on its own", wall, 0, 3, 0, 0);
    }

    private static void statistic() {
        CrowdSimulator crowd = Scenes.corridor();
        crowd.setGoal(0, 5, 0);
        crowd.setPatience(1);
        crowd.add(0, 0, 0, 5);
        crowd.add(2, 0, -1, 4);
        crowd.add(4, 0, -1, 5);
        crowd.tick(9);
        int[] due = {9, 6, 1, 2, 3};
        for (int what = 0; what < due.length; what++) {
            Check.same("19: statistic " + what, crowd.statistic(what), due[what]);
        }
    }

    private static CrowdSimulator three() {
        CrowdSimulator crowd = Scenes.crossing(-1);
        crowd.add(7, 7, 0, 4);
        crowd.join(2, 1, 1, 1);
        crowd.tick(2);
        return crowd;
    }

    private static void refused() {
        for (int ticks : new int[] {0, -1, 51, LOW, HIGH}) {
            Check.badArgument("18: ticks " + ticks, TicksTest::three, c -> c.tick(ticks));
        }
        for (int what : new int[] {-1, 5, LOW, HIGH}) {
            Check.badArgument("19: what " + what, TicksTest::three, c -> c.statistic(what));
        }
    }
}
