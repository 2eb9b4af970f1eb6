/** Promises 22 to 25: jams, the mean distance and the density. */
public final class JamsTest {
    private static final int LOW = Integer.MIN_VALUE;
    private static final int HIGH = Integer.MAX_VALUE;

    public static void main(String[] args) {
        jams();
        jamsByWaits();
        jamsByNeighborhood();
        longJam();
        jam();
        jamFreeCells();
        jamInTheCorner();
        jamRefused();
        meanDistance();
        density();
        Check.end("JamsTest");
    }

    private static void jams() {
        Check.same("22: no agents", Scenes.waiting(2).jams(), 0);
        Check.same("22: one agent", Scenes.waiting(2, 505).jams(), 0);
        Check.same("22: a pair", Scenes.waiting(2, 505, 506).jams(), 1);
        Check.same("22: one below the other", Scenes.waiting(2, 505, 605).jams(), 1);
        Check.same("22: two pairs", Scenes.waiting(2, 505, 506, 905, 906).jams(), 2);
        Check.same("22: a pair and one alone", Scenes.waiting(2, 505, 506, 905).jams(), 1);
    }

    private static void jamsByWaits() {
        Check.same("22: a wait of 1", Scenes.waiting(1, 505, 506).jams(), 0);
        Check.same("22: a long wait", Scenes.waiting(50, 505, 506).jams(), 1);
        CrowdSimulator crowd = Scenes.waiting(2, 505, 507);
        crowd.add(6, 5, 0, 0);
        Check.same("22: one between them that is not stuck", crowd.jams(), 0);
        crowd.tick(1);
        Check.same("22: that has waited once", crowd.jams(), 0);
        crowd.tick(1);
        Check.same("22: that has waited twice", crowd.jams(), 1);
        Check.same("22: with all three", crowd.jam(0, 1), 3);
        crowd.dropGoal(0);
        Check.same("22: settled with their waits", crowd.jams(), 1);
        crowd.tick(1);
        Check.same("22: settled without waits", crowd.jams(), 0);
        CrowdSimulator other = Scenes.waiting(2, 505, 506);
        other.remove(0);
        Check.same("22: one removed", other.jams(), 0);
        other.undo();
        Check.same("22: and brought back", other.jams(), 1);
    }

    private static void jamsByNeighborhood() {
        Check.same("22: corners do not touch", Scenes.waiting(2, 505, 606).jams(), 0);
        Check.same("22: rows do not go on in the next", Scenes.waiting(2, 513, 600).jams(), 0);
        Check.same("22: the grid has an end", Scenes.waiting(2, 205, 905).jams(), 0);
        Check.same("22: a bend", Scenes.waiting(2, 505, 606, 506).jam(0, 0), 7);
        Check.same("22: pairs that touch", Scenes.waiting(2, 505, 508, 506, 507).jam(0, 0), 15);
    }

    /** Agents 0 and 9 are the ends of a chain of 16, whose numbers go up and down on the way. */
    private static void longJam() {
        int[] chain = new int[16];
        for (int i = 0; i < 16; i++) {
            int step = i * 7 % 16;
            chain[i] = step < 14 ? 300 + step : 413 + 100 * (step - 14);
        }
        CrowdSimulator crowd = Scenes.waiting(2, chain);
        Check.same("22: a chain", crowd.jams(), 1);
        Check.same("23: all agents", crowd.jam(0, 0), 65535);
        Check.same("23: sixteen", crowd.jam(0, 1), 16);
        Check.same("23: all their waits", crowd.jam(0, 2), 32);
    }

    private static CrowdSimulator pairs() {
        CrowdSimulator crowd = Scenes.waiting(2, 505, 808, 702, 506, 703, 809);
        crowd.add(13, 0, -1, 0);
        crowd.setCell(2, 6, 0);
        return crowd;
    }

    private static void jam() {
        CrowdSimulator crowd = pairs();
        Check.same("22: three pairs", crowd.jams(), 3);
        Check.same("23: of agent 0", crowd.jam(0, 0), 1 + 8);
        Check.same("23: of agent 1", crowd.jam(1, 0), 2 + 32);
        Check.same("23: of agent 2", crowd.jam(2, 0), 4 + 16);
        Check.same("23: their number", crowd.jam(1, 1), 2);
        Check.same("23: their waits", crowd.jam(2, 2), 4);
        crowd.tick(2);
        crowd.add(4, 5, 0, 0);
        crowd.tick(3);
        Check.same("23: of agents 0, 3 and 7", crowd.jam(0, 0), 1 + 8 + 128);
        Check.same("23: three", crowd.jam(0, 1), 3);
        Check.same("23: waits of 7, 7 and 3", crowd.jam(0, 2), 17);
        crowd.remove(0);
        Check.same("23: agents 3 and 7 do not touch", crowd.jams(), 2);
        Check.same("23: so that of agent 1 is the first", crowd.jam(0, 0), 2 + 32);
    }

    private static void jamFreeCells() {
        Check.same("23: round a pair", Scenes.waiting(2, 505, 506).jam(0, 3), 6);
        Check.same("23: cells counted once", Scenes.waiting(2, 505, 506, 605).jam(0, 3), 7);
        Check.same("23: on the edge", Scenes.waiting(2, 913, 813).jam(0, 3), 3);
        Check.same("23: in a row's edge", Scenes.waiting(2, 905, 906).jam(0, 3), 4);
        CrowdSimulator crowd = pairs();
        Check.same("23: without a wall", crowd.jam(2, 3), 5);
        crowd.add(2, 8, -1, 0);
        Check.same("23: without an agent that is not stuck", crowd.jam(2, 3), 4);
        crowd.setCell(1, 7, 0);
        crowd.setCell(3, 6, 0);
        crowd.setCell(4, 7, 0);
        crowd.setCell(3, 8, 0);
        Check.same("23: none", crowd.jam(2, 3), 0);
    }

    private static void jamInTheCorner() {
        CrowdSimulator crowd = new CrowdSimulator();
        crowd.setCell(12, 9, 0);
        crowd.setCell(13, 8, 0);
        crowd.setGoal(0, 13, 9);
        crowd.add(0, 1, 0, 0);
        crowd.add(1, 1, 0, 0);
        crowd.tick(2);
        Check.same("23: with the first cell", crowd.jam(0, 3), 5);
        crowd.add(0, 0, 0, 0);
        Check.same("23: without it", crowd.jam(0, 3), 4);
        crowd.tick(2);
        Check.same("23: with the agent on it", crowd.jam(0, 0), 7);
    }

    private static void jamRefused() {
        for (int jam : new int[] {-1, 3, LOW, HIGH}) {
            Check.outOfBounds("23: jam " + jam, JamsTest::pairs, c -> c.jam(jam, 0));
            Check.outOfBounds("23: jam and what " + jam, JamsTest::pairs, c -> c.jam(jam, 4));
        }
        for (int what : new int[] {-1, 4, LOW, HIGH}) {
            Check.badArgument("23: what " + what, JamsTest::pairs, c -> c.jam(0, what));
        }
        Check.outOfBounds("23: no jams", () -> Scenes.waiting(2, 505), c -> c.jam(0, 0));
    }

    private static CrowdSimulator idle() {
        CrowdSimulator crowd = Check.onMap("1#/#");
        crowd.add(5, 5, -1, 0);
        crowd.add(6, 6, 2, 0);
        crowd.add(7, 7, 0, 0);
        crowd.setGoal(0, 0, 0);
        return crowd;
    }

    private static void meanDistance() {
        Check.arithmetic("24: no agents", CrowdSimulator::new, c -> c.meanDistance());
        Check.arithmetic("24: no distances", JamsTest::idle, c -> c.meanDistance());
        CrowdSimulator crowd = idle();
        crowd.setGoal(1, 7, 9);
        crowd.change(2, true, 1);
        Check.same("24: one distance", crowd.meanDistance(), 2.0);
        crowd.add(7, 9, 1, 0);
        Check.same("24: on its target", crowd.meanDistance(), 1.0);
        crowd.add(8, 9, 1, 0);
        Check.same("24: one", crowd.meanDistance(), 1.0);
        crowd.add(8, 8, 1, 0);
        Check.same("24: one and a quarter", crowd.meanDistance(), 1.25);
        crowd.setCell(7, 9, 9);
        Check.same("24: with costs", crowd.meanDistance(), 7.25);
        crowd.join(4, 0, 1, 0);
        Check.same("24: with a member", crowd.meanDistance(), 6.5);
        crowd.remove(5);
        Check.same("24: thirds", crowd.meanDistance(), 16.0 / 3.0);
        CrowdSimulator zero = new CrowdSimulator();
        zero.setGoal(0, 3, 3);
        zero.add(3, 3, 0, 0);
        Check.same("24: zero", zero.meanDistance(), 0.0);
    }

    private static void density() {
        CrowdSimulator crowd = new CrowdSimulator();
        Check.same("25: no agents", crowd.density(), 0.0);
        crowd.add(0, 0, -1, 0);
        Check.same("25: one", crowd.density(), 1.0f / 140.0f);
        crowd.add(1, 0, -1, 0);
        crowd.add(2, 0, -1, 0);
        crowd.setCell(5, 5, 0);
        crowd.setCell(6, 5, 9);
        Check.same("25: three, a wall, and a dear cell", crowd.density(), 3.0f / 139.0f);
        crowd.remove(1);
        Check.same("25: two", crowd.density(), 2.0f / 139.0f);
        String walls = "##############";
        CrowdSimulator one = Check.onMap("1#############" + ("/" + walls).repeat(9));
        one.add(0, 0, -1, 0);
        Check.same("25: full", one.density(), 1.0);
        Check.arithmetic("25: all walls", () -> Check.onMap(walls + ("/" + walls).repeat(9)), c -> c.density());
        one.remove(0);
        Check.same("25: empty", one.density(), 0.0);
    }
}
