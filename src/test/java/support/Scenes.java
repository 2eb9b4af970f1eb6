/** Objects with calls behind them that several tests begin with, the same whenever they are asked for. */
final class Scenes {
    private Scenes() {
    }

    /** Something of everything, and no change that can be taken back. */
    static CrowdSimulator calm() {
        CrowdSimulator crowd = Check.onMap("1111/##31/##11");
        crowd.setGoal(0, 3, 2);
        crowd.setGoal(1, 9, 9);
        crowd.add(0, 0, 0, 9);
        crowd.add(1, 0, 1, 3);
        crowd.add(6, 6, 0, 5);
        crowd.add(5, 7, 2, 5);
        crowd.join(2, 3, 1, 1);
        crowd.setPatience(1);
        crowd.tick(3);
        crowd.save();
        crowd.restore();
        return crowd;
    }

    /** The same with a saved state that is another one, three changes to take back, and a fed buffer. */
    static CrowdSimulator lively() {
        CrowdSimulator crowd = calm();
        crowd.add(12, 3, -1, 7);
        crowd.setCell(8, 8, 0);
        crowd.tick(1);
        Check.feed(crowd, "11/2");
        return crowd;
    }

    /** Sixteen agents in the rows 0 and 1, a wall on (9, 9). */
    static CrowdSimulator full() {
        CrowdSimulator crowd = new CrowdSimulator();
        for (int i = 0; i < 16; i++) {
            crowd.add(i % 8, i / 8, -1, i % 10);
        }
        crowd.setCell(9, 9, 0);
        return crowd;
    }

    /** Agent 0 leads 1 and 2, agent 3 leads 4. */
    static CrowdSimulator formations() {
        CrowdSimulator crowd = new CrowdSimulator();
        for (int i = 0; i < 5; i++) {
            crowd.add(2 * i, 4, -1, 0);
        }
        crowd.join(1, 0, 1, 0);
        crowd.join(2, 0, 0, 1);
        crowd.join(4, 3, -1, 0);
        return crowd;
    }

    /** An agent on (2, 1) and a goal on (3, 2). */
    static CrowdSimulator inhabited() {
        CrowdSimulator crowd = Check.onMap("999");
        crowd.add(2, 1, -1, 0);
        crowd.setGoal(0, 3, 2);
        return crowd;
    }

    static CrowdSimulator inhabitedAndFed(String text) {
        CrowdSimulator crowd = inhabited();
        Check.feed(crowd, text);
        return crowd;
    }

    /** A way of 14 cells in row 0, walled off from the rest. */
    static CrowdSimulator corridor() {
        return Check.onMap("/##############");
    }

    /** Agents with goal 0, to which there is no way, so that they wait; cells are 100 times the row plus the column. */
    static CrowdSimulator waiting(int ticks, int... cells) {
        CrowdSimulator crowd = Check.onMap("1#/#");
        crowd.setGoal(0, 0, 0);
        for (int cell : cells) {
            crowd.add(cell % 100, cell / 100, 0, 0);
        }
        crowd.tick(ticks);
        return crowd;
    }

    /** Agent 0 comes from the west, on its way to (13, 5), and pushes agent 1, who stands on (5, 5). */
    static CrowdSimulator crossing(int goalOfPushed) {
        CrowdSimulator crowd = new CrowdSimulator();
        crowd.setGoal(0, 13, 5);
        crowd.add(4, 5, 0, 9);
        crowd.add(5, 5, goalOfPushed, 0);
        return crowd;
    }

    /**
     * Agent 0 goes east in the rows 0 and 1, west in row 3, and east in the rows 5 and 6. Each of six
     * settled agents stands in its way, so that it waits for nine ticks before it goes to the other row.
     * From column 2 on it is settled after 100 ticks, from column 1 on after 101.
     */
    static CrowdSimulator heldUp(int x) {
        CrowdSimulator crowd = Check.onMap("//#############1//1#############///##############");
        crowd.setGoal(0, 12, 6);
        crowd.setPatience(9);
        crowd.add(x, 0, 0, 5);
        for (int y = 0; y < 6; y += 5) {
            crowd.add(3, y, -1, 5);
            crowd.add(7, y + 1, -1, 5);
            crowd.add(11, y, -1, 5);
        }
        return crowd;
    }
}
