/** Promises 22 to 25: a test for each sentence that names a boundary case of jams, the mean distance and the density. */
public final class JamEdgesTest {
    private static final int LOW = Integer.MIN_VALUE;
    private static final int HIGH = Integer.MAX_VALUE;

    public static void main(String[] args) {
        stuckFromTwo();
        setsOfAtLeastTwo();
        asManyAsThereCanBe();
        longestJam();
        lastAgentAsLink();
        largestSets();
        neighboringCells();
        besidesTheStuck();
        lowestAgents();
        waitsAsTheyAreNow();
        noSuchJam();
        whatOfAJam();
        orderInJam();
        sumOfWaits();
        freeCells();
        freeCellsAtTheEdges();
        firstAndLastCells();
        freeCellsOnce();
        noFreeCells();
        meanDistanceOfNone();
        meanDistanceOfSome();
        meanDistanceOfSixteen();
        densityOfNoCells();
        densityFromNoneToAll();
        Check.end("JamEdgesTest");
    }

    private static void stuckFromTwo() {
        Check.sentence("An agent is stuck if its wait is at least 2.");
        for (int wait = 1; wait < 5; wait++) {
            CrowdSimulator crowd = Scenes.waiting(wait, 505, 506);
            Check.same("22: two with the wait " + wait, crowd.jams(), wait < 2 ? 0 : 1);
        }
        CrowdSimulator mixed = Scenes.waiting(1, 505);
        mixed.add(6, 5, 0, 0);
        mixed.tick(1);
        Check.same("22: waits of 2 and 1", mixed.jams(), 0);
        mixed.tick(1);
        Check.same("22: waits of 3 and 2", mixed.jams(), 1);
    }

    private static void setsOfAtLeastTwo() {
        Check.sentence("A jam is a largest set of at least 2 stuck agents");
        Check.same("22: no agents", new CrowdSimulator().jams(), 0);
        Check.same("22: sixteen that are not stuck", Scenes.full().jams(), 0);
        Check.same("22: one", Scenes.waiting(9, 505).jams(), 0);
        Check.same("22: two apart", Scenes.waiting(9, 505, 507).jams(), 0);
        Check.same("22: two together", Scenes.waiting(9, 505, 506).jams(), 1);
    }

    /** Eight pairs; the lowest agent of a pair is on the left in the even pairs. */
    private static CrowdSimulator pairs() {
        int[] cells = new int[16];
        for (int pair = 0; pair < 8; pair++) {
            int left = 203 + 200 * (pair / 2) + 5 * (pair % 2);
            cells[pair] = pair % 2 == 0 ? left : left + 1;
            cells[15 - pair] = pair % 2 == 0 ? left + 1 : left;
        }
        return Scenes.waiting(2, cells);
    }

    private static CrowdSimulator block(int x, int y) {
        int[] cells = new int[16];
        for (int i = 0; i < 16; i++) {
            cells[i] = 100 * (y + i / 4) + x + i % 4;
        }
        return Scenes.waiting(2, cells);
    }

    private static void asManyAsThereCanBe() {
        Check.sentence("Returns the number of jams.");
        CrowdSimulator crowd = pairs();
        Check.same("22: eight pairs", crowd.jams(), 8);
        for (int pair = 0; pair < 8; pair++) {
            Check.same("23: pair " + pair, crowd.jam(pair, 0), (1 << pair) + (1 << 15 - pair));
        }
        CrowdSimulator block = block(5, 4);
        Check.same("22: sixteen in one", block.jams(), 1);
        Check.same("23: their set", block.jam(0, 0), 65535);
        Check.same("23: their number", block.jam(0, 1), 16);
        Check.same("23: their waits", block.jam(0, 2), 32);
    }

    /** Agent 0 is the one end of a row of fourteen and two more, agent 15 the other end. */
    private static void longestJam() {
        Check.sentence("in which each two are connected by agents of the set on neighboring cells");
        int[] cells = new int[16];
        for (int i = 0; i < 16; i++) {
            cells[i] = i < 14 ? 300 + i : 313 + 100 * (i - 13);
        }
        CrowdSimulator crowd = Scenes.waiting(2, cells);
        Check.same("22: sixteen one after the other", crowd.jams(), 1);
        Check.same("23: all of them", crowd.jam(0, 0), 65535);
    }

    /** Agent 15 stands between the agents 0 and 1, all others stand alone. */
    private static void lastAgentAsLink() {
        Check.sentence("in which each two are connected by agents of the set on neighboring cells");
        int[] cells = new int[16];
        for (int i = 2; i < 15; i++) {
            cells[i] = i < 8 ? 800 + 2 * (i - 2) : i < 14 ? 200 + 2 * (i - 7) : 513;
        }
        cells[0] = 502;
        cells[15] = 503;
        cells[1] = 504;
        CrowdSimulator crowd = Scenes.waiting(2, cells);
        Check.same("22: three", crowd.jams(), 1);
        Check.same("23: their set", crowd.jam(0, 0), 1 + 2 + 32768);
        Check.same("23: their waits", crowd.jam(0, 2), 6);
        crowd.remove(15);
        Check.same("22: without their link", crowd.jams(), 0);
    }

    private static void largestSets() {
        Check.sentence("in which each two are connected by agents of the set on neighboring cells");
        CrowdSimulator ends = Scenes.waiting(2, 505, 508, 507, 506);
        Check.same("22: a row whose ends have the lowest numbers", ends.jams(), 1);
        Check.same("23: all of it", ends.jam(0, 0), 15);
        ends.remove(3);
        Check.same("22: its link is gone", ends.jams(), 1);
        Check.same("23: the rest of it", ends.jam(0, 0), 2 + 4);
        ends.add(6, 5, -1, 0);
        Check.same("23: a link that is not stuck", ends.jam(0, 0), 2 + 4);
    }

    private static void neighboringCells() {
        Check.sentence("Cells outside of the grid are no neighbors.");
        int[][] apart = {{505, 606}, {506, 605}, {213, 300}, {300, 313}, {5, 905}, {13, 900}};
        for (int[] pair : apart) {
            Check.same("22: " + pair[0] + " and " + pair[1], Scenes.waiting(2, pair).jams(), 0);
        }
        int[][] beside = {{505, 605}, {605, 505}, {505, 506}, {506, 505}, {912, 913}, {13, 113}, {2, 3}, {800, 900}};
        for (int[] pair : beside) {
            Check.same("22: " + pair[0] + " and " + pair[1], Scenes.waiting(2, pair).jams(), 1);
        }
    }

    private static void besidesTheStuck() {
        Check.sentence("A jam is a largest set of at least 2 stuck agents");
        CrowdSimulator crowd = Scenes.waiting(2, 505, 506, 507);
        crowd.change(0, true, -1);
        crowd.tick(1);
        Check.same("22: a pair beside agent 0, who is not stuck", crowd.jams(), 1);
        Check.same("23: the pair alone", crowd.jam(0, 0), 2 + 4);
        crowd.remove(2);
        Check.same("22: one beside agent 0, who is not stuck", crowd.jams(), 0);
    }

    private static void lowestAgents() {
        Check.sentence("Jams are numbered from 0 in ascending order of their lowest agents.");
        CrowdSimulator crowd = Scenes.waiting(2, 905, 202, 505, 506, 203, 906);
        int[] due = {1 + 32, 2 + 16, 4 + 8};
        for (int jam = 0; jam < 3; jam++) {
            Check.same("23: jam " + jam, crowd.jam(jam, 0), due[jam]);
        }
        crowd.remove(0);
        Check.same("23: the second has become the first", crowd.jam(0, 0), 2 + 16);
        crowd.undo();
        Check.same("23: and the second again", crowd.jam(1, 0), 2 + 16);
    }

    private static void waitsAsTheyAreNow() {
        Check.sentence("Jams and stuck agents are found by the waits as they are now.");
        CrowdSimulator crowd = Scenes.waiting(2, 505, 506);
        crowd.dropGoal(0);
        Check.same("14: settled, and stuck still", crowd.agents(1) * 10 + crowd.agents(2), 33);
        Check.same("22: a jam still", crowd.jams(), 1);
        crowd.tick(1);
        Check.same("14: stuck no more", crowd.agents(2), 0);
        Check.same("22: a jam no more", crowd.jams(), 0);
        crowd.undo();
        Check.same("22: a jam again", crowd.jams(), 1);
    }

    private static void noSuchJam() {
        Check.sentence("Throws IndexOutOfBoundsException if there is no such jam");
        for (int jam : new int[] {-1, 8, LOW, HIGH}) {
            for (int what = 0; what < 4; what++) {
                int asked = what;
                Check.outOfBounds("23: jam " + jam + " of eight", JamEdgesTest::pairs, c -> c.jam(jam, asked));
            }
        }
        Check.outOfBounds("23: the first of none", CrowdSimulator::new, c -> c.jam(0, 0));
        Check.outOfBounds("23: the first of one that waits", () -> Scenes.waiting(9, 505), c -> c.jam(0, 0));
        Check.outOfBounds("23: the second of one", () -> block(5, 4), c -> c.jam(1, 0));
    }

    private static void whatOfAJam() {
        Check.sentence("0 the set of its agents; 1 their number; 2 the sum of their waits; 3 the number of free cells");
        int[] due = {1 + 32768, 2, 4, 6};
        for (int what = 0; what < 4; what++) {
            Check.same("23: what " + what, pairs().jam(0, what), due[what]);
        }
        for (int what : new int[] {-1, 4, LOW, HIGH}) {
            Check.badArgument("23: what " + what, JamEdgesTest::pairs, c -> c.jam(7, what));
        }
    }

    private static void orderInJam() {
        Check.sentence("If several exceptions apply, the one named first is thrown.");
        for (int what : new int[] {-1, 4, LOW, HIGH}) {
            Check.outOfBounds("23: jam -1, what " + what, JamEdgesTest::pairs, c -> c.jam(-1, what));
            Check.outOfBounds("23: jam 8, what " + what, JamEdgesTest::pairs, c -> c.jam(8, what));
            Check.outOfBounds("23: none, what " + what, CrowdSimulator::new, c -> c.jam(0, what));
        }
    }

    private static void sumOfWaits() {
        Check.sentence("2 the sum of their waits");
        CrowdSimulator crowd = Scenes.waiting(3, 505, 506);
        crowd.add(7, 5, 0, 0);
        crowd.tick(1);
        Check.same("23: waits of 4, 4, and one that is too short", crowd.jam(0, 2), 8);
        crowd.tick(1);
        Check.same("23: waits of 5, 5 and 2", crowd.jam(0, 2), 12);
        crowd.tick(50);
        Check.same("23: waits of 55, 55 and 52", crowd.jam(0, 2), 162);
    }

    private static void freeCells() {
        Check.sentence("cells that are no walls and without agents");
        CrowdSimulator crowd = Scenes.waiting(2, 505, 506);
        Check.same("23: all round", crowd.jam(0, 3), 6);
        crowd.setCell(5, 4, 0);
        Check.same("23: without a wall", crowd.jam(0, 3), 5);
        crowd.add(6, 4, -1, 0);
        Check.same("23: without an agent", crowd.jam(0, 3), 4);
        crowd.setGoal(1, 7, 5);
        crowd.setCell(4, 5, 9);
        Check.same("23: with a goal and a dear cell", crowd.jam(0, 3), 4);
        crowd.setCell(4, 4, 0);
        Check.same("23: not with corners", crowd.jam(0, 3), 4);
    }

    private static void freeCellsAtTheEdges() {
        Check.sentence("Cells outside of the grid are neither walls nor free.");
        Check.same("23: in the last corner", Scenes.waiting(2, 913, 912).jam(0, 3), 3);
        Check.same("23: in the north-east corner", Scenes.waiting(2, 13, 113).jam(0, 3), 3);
        Check.same("23: in the south-west corner", Scenes.waiting(2, 900, 901).jam(0, 3), 3);
        Check.same("23: at the northern edge", Scenes.waiting(2, 5, 6).jam(0, 3), 4);
        Check.same("23: at the western edge", Scenes.waiting(2, 500, 600).jam(0, 3), 4);
        Check.same("23: a block in the corner", block(10, 6).jam(0, 3), 8);
        Check.same("23: a block in the middle", block(5, 4).jam(0, 3), 16);
    }

    private static void firstAndLastCells() {
        Check.sentence("3 the number of free cells that are neighbors of its agents");
        CrowdSimulator last = Scenes.waiting(2, 911, 912);
        Check.same("23: with the last cell", last.jam(0, 3), 4);
        last.setCell(13, 9, 0);
        Check.same("23: without the last cell", last.jam(0, 3), 3);
        CrowdSimulator first = new CrowdSimulator();
        first.setCell(12, 9, 0);
        first.setCell(13, 8, 0);
        first.setGoal(0, 13, 9);
        first.add(0, 1, 0, 0);
        first.add(1, 1, 0, 0);
        first.tick(2);
        Check.same("23: with the first cell", first.jam(0, 3), 5);
        first.setCell(0, 0, 0);
        Check.same("23: without the first cell", first.jam(0, 3), 4);
    }

    private static void freeCellsOnce() {
        Check.sentence("each one counted once");
        Check.same("23: within an angle", Scenes.waiting(2, 504, 604, 605).jam(0, 3), 7);
        CrowdSimulator ring = Scenes.waiting(2, 404, 405, 406, 506, 606, 605, 604, 504);
        Check.same("23: within a ring", ring.jam(0, 3), 12 + 1);
        ring.setCell(5, 5, 0);
        Check.same("23: round a wall", ring.jam(0, 3), 12);
    }

    private static void noFreeCells() {
        Check.sentence("3 the number of free cells that are neighbors of its agents");
        CrowdSimulator crowd = Scenes.waiting(2, 912, 913);
        crowd.setCell(11, 9, 0);
        crowd.setCell(12, 8, 0);
        Check.same("23: one", crowd.jam(0, 3), 1);
        crowd.setCell(13, 8, 0);
        Check.same("23: none", crowd.jam(0, 3), 0);
    }

    // ---- the mean distance and the density

    private static CrowdSimulator withoutDistances() {
        CrowdSimulator crowd = Scenes.waiting(1, 505, 506);
        crowd.add(9, 9, -1, 0);
        crowd.add(9, 8, 2, 0);
        return crowd;
    }

    private static void meanDistanceOfNone() {
        Check.sentence("Throws ArithmeticException if there are no such agents");
        Check.arithmetic("24: no agents", CrowdSimulator::new, c -> c.meanDistance());
        Check.arithmetic("24: sixteen without targets", Scenes::full, c -> c.meanDistance());
        Check.arithmetic("24: two without a way, two without a target", JamEdgesTest::withoutDistances,
            c -> c.meanDistance());
    }

    private static void meanDistanceOfSome() {
        Check.sentence("Returns the mean distance of all agents that have a target from which their cells have a"
            + " distance");
        CrowdSimulator crowd = withoutDistances();
        crowd.setGoal(2, 9, 8);
        Check.same("24: one on its target", crowd.meanDistance(), 0.0);
        crowd.change(2, true, 2);
        Check.same("24: and one beside it", crowd.meanDistance(), 0.5);
        crowd.join(0, 2, -3, 0);
        Check.same("24: and a member", crowd.meanDistance(), (0 + 1 + 5) / 3.0);
        crowd.setCell(9, 8, 9);
        Check.same("24: with a dear target", crowd.meanDistance(), (0 + 9 + 5) / 3.0);
        crowd.dropGoal(2);
        Check.same("24: the member alone", crowd.meanDistance(), 5.0);
    }

    private static void meanDistanceOfSixteen() {
        Check.sentence("the sum of these distances, as a double, divided by the number of these agents");
        CrowdSimulator crowd = Scenes.full();
        crowd.setGoal(0, 0, 0);
        for (int agent = 0; agent < 16; agent++) {
            crowd.change(agent, true, 0);
        }
        Check.same("24: rows of 0 to 7 and of 1 to 8", crowd.meanDistance(), (28 + 36) / 16.0);
        crowd.remove(15);
        Check.same("24: without the farthest", crowd.meanDistance(), 56 / 15.0);
    }

    private static CrowdSimulator allWalls() {
        return Check.onMap("##############" + "/##############".repeat(9));
    }

    private static void densityOfNoCells() {
        Check.sentence("Throws ArithmeticException if there are no such cells");
        Check.arithmetic("25: all walls", JamEdgesTest::allWalls, c -> c.density());
        CrowdSimulator crowd = allWalls();
        crowd.setCell(13, 9, 1);
        Check.same("25: one cell", crowd.density(), 0.0);
        crowd.setCell(13, 9, 0);
        Check.same("25: none again", Check.thrownBy(crowd::density), "ArithmeticException");
        crowd.undo();
        Check.same("25: one again", crowd.density(), 0.0);
    }

    private static void densityFromNoneToAll() {
        Check.sentence("the number of agents, as a float, divided by the number of cells that are no walls, as a float");
        Check.same("25: none", new CrowdSimulator().density(), 0.0);
        Check.same("25: sixteen, one wall", Scenes.full().density(), 16.0f / 139.0f);
        CrowdSimulator crowd = allWalls();
        for (int agents = 1; agents < 4; agents++) {
            crowd.setCell(agents, 3, 9);
            crowd.add(agents, 3, -1, 0);
            Check.same("25: on each cell an agent", crowd.density(), 1.0);
        }
        crowd.remove(1);
        Check.same("25: two on three cells", crowd.density(), 2.0f / 3.0f);
    }
}
