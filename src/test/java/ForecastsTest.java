/** Promises 20 and 21: forecasts and the bottleneck. */
public final class ForecastsTest {
    private static final int LOW = Integer.MIN_VALUE;
    private static final int HIGH = Integer.MAX_VALUE;

    public static void main(String[] args) {
        forecast();
        forecastOfOthers();
        forecastChangesNothing();
        farForecasts();
        forecastRefused();
        bottleneck();
        bottleneckOfSeveral();
        bottleneckInTheCorner();
        bottleneckRefused();
        Check.end("ForecastsTest");
    }

    /** Agent 0 has five steps to go, agent 1 has no goal, agent 2 no way. */
    private static CrowdSimulator three() {
        CrowdSimulator crowd = Check.onMap("1#/#");
        crowd.setGoal(0, 7, 2);
        crowd.setGoal(1, 0, 0);
        crowd.add(4, 4, 0, 3);
        crowd.add(9, 9, -1, 0);
        crowd.add(8, 8, 1, 0);
        return crowd;
    }

    private static void forecast() {
        CrowdSimulator crowd = three();
        Check.same("20: five steps", crowd.forecast(0), 5);
        Check.same("20: without a goal", crowd.forecast(1), 0);
        Check.noElement("20: no way", ForecastsTest::three, c -> c.forecast(2));
        crowd.tick(4);
        Check.same("20: one step", crowd.forecast(0), 1);
        crowd.tick(1);
        Check.same("20: there", crowd.forecast(0), 0);
        crowd.dropGoal(1);
        Check.same("20: with a goal not set", crowd.forecast(2), 0);
        crowd.setGoal(0, 7, 9);
        Check.same("20: settled at the end of a tick", crowd.forecast(0), 7);
    }

    /** A corridor in row 0; agent 1 stands in the way of agent 0, beside it a free cell in row 1. */
    private static CrowdSimulator blocked() {
        CrowdSimulator crowd = Check.onMap("/####1#########");
        crowd.setGoal(0, 13, 0);
        crowd.add(3, 0, 0, 5);
        crowd.add(4, 0, 1, 5);
        return crowd;
    }

    private static void forecastOfOthers() {
        Check.noElement("20: back and forth for ever", ForecastsTest::blocked, c -> c.forecast(0));
        CrowdSimulator crowd = blocked();
        crowd.setGoal(1, 4, 1);
        Check.same("20: the other one goes", crowd.forecast(1), 1);
        Check.same("20: and lets this one go on after a tick", crowd.forecast(0), 11);
        crowd.change(1, false, 4);
        Check.same("20: by pushing at once", crowd.forecast(0), 10);
        crowd.setGoal(1, 4, 0);
        Check.same("20: settled now, though it will be pushed", crowd.forecast(1), 0);
        CrowdSimulator follower = new CrowdSimulator();
        follower.setGoal(0, 13, 0);
        follower.add(3, 0, 0, 5);
        follower.add(0, 0, -1, 0);
        follower.join(1, 0, 0, 1);
        Check.same("20: of a leader", follower.forecast(0), 10);
        Check.same("20: of its member", follower.forecast(1), 12);
    }

    private static int settledAfter(CrowdSimulator crowd, int agent) {
        int ticks = 0;
        while (crowd.agent(agent, 10) == 0 && ticks < 101) {
            crowd.tick(1);
            ticks++;
        }
        return ticks;
    }

    private static void forecastChangesNothing() {
        CrowdSimulator crowd = three();
        crowd.tick(2);
        crowd.forecast(0);
        crowd.forecast(0);
        CrowdSimulator other = three();
        other.tick(2);
        Check.same("20: nothing changes", Check.allOf(crowd), Check.allOf(other));
    }

    private static void farForecasts() {
        Check.same("20: past two of the six", Scenes.heldUp(4).forecast(0), 78);
        Check.same("20: after 100 ticks", Scenes.heldUp(2).forecast(0), 100);
        Check.noElement("20: after 101 ticks", () -> Scenes.heldUp(1), c -> c.forecast(0));
        Check.same("20: settled after 100 ticks", settledAfter(Scenes.heldUp(2), 0), 100);
        CrowdSimulator crowd = Scenes.heldUp(1);
        crowd.tick(1);
        Check.same("20: one tick later", crowd.forecast(0), 100);
        crowd.tick(50);
        Check.same("20: 51 ticks later", crowd.forecast(0), 50);
        crowd.tick(49);
        Check.same("20: 100 ticks later", crowd.forecast(0), 1);
    }

    private static void forecastRefused() {
        for (int agent : new int[] {-1, 3, 16, LOW, HIGH}) {
            Check.outOfBounds("20: agent " + agent, ForecastsTest::three, c -> c.forecast(agent));
        }
    }

    private static void bottleneck() {
        CrowdSimulator crowd = Check.onMap("/#####1########");
        crowd.setGoal(0, 5, 9);
        crowd.add(2, 0, 0, 0);
        crowd.add(4, 0, 0, 0);
        crowd.add(9, 0, 0, 0);
        crowd.tick(1);
        Check.same("21: after one tick the northernmost, then the westernmost", crowd.bottleneck(), 3);
        crowd.tick(9);
        Check.same("21: the way into the door", crowd.bottleneck(), 5);
        Check.same("21: passed by all", crowd.cell(5, 0, 2), 3);
        crowd.setCell(5, 0, 0);
        Check.same("21: passes of a wall", crowd.bottleneck(), 5);
    }

    private static void bottleneckOfSeveral() {
        CrowdSimulator crowd = new CrowdSimulator();
        crowd.setGoal(0, 13, 9);
        crowd.add(12, 9, 0, 0);
        crowd.tick(1);
        Check.same("21: the last cell", crowd.bottleneck(), 913);
        crowd.setGoal(1, 0, 3);
        crowd.add(1, 3, 1, 0);
        crowd.tick(1);
        Check.same("21: the lower row", crowd.bottleneck(), 300);
        crowd.setGoal(2, 12, 2);
        crowd.add(11, 2, 2, 0);
        crowd.tick(1);
        Check.same("21: the lower row, though the higher column", crowd.bottleneck(), 212);
        crowd.setGoal(3, 7, 2);
        crowd.add(6, 2, 3, 0);
        crowd.tick(1);
        Check.same("21: the lower column", crowd.bottleneck(), 207);
        crowd.add(12, 9, -1, 0);
        crowd.setGoal(0, 12, 9);
        crowd.change(0, false, 9);
        crowd.tick(1);
        Check.same("21: passes of a push", crowd.bottleneck(), 207);
        crowd.setGoal(0, 13, 9);
        crowd.tick(1);
        Check.same("21: the most passes", crowd.bottleneck(), 913);
    }

    private static void bottleneckInTheCorner() {
        CrowdSimulator crowd = new CrowdSimulator();
        crowd.setGoal(0, 0, 0);
        crowd.add(0, 2, 0, 0);
        crowd.tick(2);
        Check.same("21: the first cell", crowd.bottleneck(), 0);
    }

    private static void bottleneckRefused() {
        Check.noElement("21: no passes", ForecastsTest::three, c -> c.bottleneck());
        Check.noElement("21: no passes by waiting", () -> {
            CrowdSimulator crowd = Check.onMap("1#/#");
            crowd.setGoal(0, 0, 0);
            crowd.add(3, 3, 0, 0);
            crowd.tick(3);
            return crowd;
        }, c -> c.bottleneck());
    }
}
