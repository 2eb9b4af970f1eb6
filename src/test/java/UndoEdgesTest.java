import java.util.ArrayDeque;
import java.util.Deque;

/** Promises 29 to 31: a test for each sentence that names a boundary case of what is taken back, saved and restored. */
public final class UndoEdgesTest {
    public static void main(String[] args) {
        nothingToTakeBack();
        atMostEight();
        eachSortOfChange();
        changesToWhatIsThere();
        refusedCalls();
        otherCalls();
        latestNotTakenBack();
        roundAndRound();
        broughtBack();
        passesBroughtBack();
        lastOfSixteenBroughtBack();
        bufferStays();
        savedInPlace();
        savedWithoutTheRest();
        savedAgents();
        nothingSaved();
        staysSaved();
        nothingAfterRestore();
        Check.end("UndoEdgesTest");
    }

    // ---- undo

    /** As lively(), but without anything to take back. */
    private static CrowdSimulator settledDown() {
        CrowdSimulator crowd = Scenes.lively();
        crowd.save();
        crowd.restore();
        return crowd;
    }

    private static void nothingToTakeBack() {
        Check.sentence("Throws IllegalStateException if there is none");
        Check.badState("29: a new object", CrowdSimulator::new, c -> c.undo());
        Check.badState("29: after restore", UndoEdgesTest::settledDown, c -> c.undo());
        Check.badState("29: the only one was taken back", () -> {
            CrowdSimulator crowd = settledDown();
            crowd.tick(50);
            crowd.undo();
            return crowd;
        }, c -> c.undo());
        CrowdSimulator crowd = new CrowdSimulator();
        for (int round = 0; round < 20; round++) {
            crowd.setPatience(round % 10);
            Check.same("29: one in round " + round, crowd.undo(), 0);
            Check.same("29: none in round " + round, Check.thrownBy(crowd::undo), "IllegalStateException");
        }
    }

    private static void atMostEight() {
        Check.sentence("At most 8 changes can be taken back.");
        for (int changes = 0; changes < 30; changes++) {
            CrowdSimulator crowd = new CrowdSimulator();
            for (int change = 0; change < changes; change++) {
                crowd.add(change % 14, change / 14, -1, 0);
                crowd.remove(0);
                crowd.tick(1);
            }
            int due = Math.min(8, 3 * changes);
            for (int left = due - 1; left >= 0; left--) {
                Check.same("29: left of " + changes, crowd.undo(), left);
            }
            Check.same("29: no more of " + changes, Check.thrownBy(crowd::undo), "IllegalStateException");
            Check.same("29: the time then", crowd.statistic(0), changes - (due + 2) / 3);
        }
    }

    private static final Check.Call[] CHANGES = {
        c -> c.setCell(13, 9, 0), c -> c.setGoal(3, 13, 9), c -> c.dropGoal(0), c -> c.setPatience(9),
        c -> c.add(0, 9, 3, 9), c -> c.remove(3), c -> c.change(0, true, -1), c -> c.change(0, false, 0),
        c -> c.join(0, 3, -3, 3), c -> c.leave(2), c -> c.tick(1), c -> c.readMap()
    };

    private static void eachSortOfChange() {
        Check.sentence("a successful call of setCell, setGoal, dropGoal, setPatience, add, remove, change, join, leave,"
            + " tick or readMap");
        for (int i = 0; i < CHANGES.length; i++) {
            CrowdSimulator crowd = settledDown();
            CHANGES[i].on(crowd);
            Check.same("29: change " + i, crowd.undo(), 0);
            Check.same("29: no other by change " + i, Check.thrownBy(crowd::undo), "IllegalStateException");
            CrowdSimulator due = settledDown();
            if (i == CHANGES.length - 1) {
                due.readMap();
                due.undo();
            }
            Check.same("29: as before change " + i, Check.allOf(crowd), Check.allOf(due));
        }
    }

    private static final Check.Call[] AS_IT_WAS = {
        c -> c.setCell(8, 8, 0), c -> c.setCell(13, 9, 1), c -> c.setGoal(0, 3, 2), c -> c.setPatience(1),
        c -> c.change(0, true, 0), c -> c.change(0, false, 9), c -> c.join(2, 3, 1, 1), c -> Check.read(c, "1"),
        c -> Check.read(c, "/////////")
    };

    private static void changesToWhatIsThere() {
        Check.sentence("Takes back the latest change that was not taken back: a successful call of setCell");
        for (int i = 0; i < AS_IT_WAS.length; i++) {
            CrowdSimulator crowd = settledDown();
            crowd.readMap();
            crowd.restore();
            AS_IT_WAS[i].on(crowd);
            Check.same("29: a successful call " + i, Check.thrownBy(crowd::undo), "nothing");
            Check.same("29: it alone " + i, Check.thrownBy(crowd::undo), "IllegalStateException");
        }
    }

    private static final Check.Call[] REFUSED = {
        c -> c.setCell(14, 0, 1), c -> c.setCell(0, 0, 10), c -> c.setCell(12, 3, 0), c -> c.setGoal(4, 0, 0),
        c -> c.setGoal(0, 8, 8), c -> c.dropGoal(4), c -> c.dropGoal(3), c -> c.setPatience(10),
        c -> c.add(0, 10, -1, 0), c -> c.add(0, 9, 4, 0), c -> c.add(8, 8, -1, 0), c -> c.remove(5),
        c -> c.change(5, true, 0), c -> c.change(0, true, 4), c -> c.join(5, 0, 1, 1), c -> c.join(0, 1, 4, 1),
        c -> c.join(0, 2, 1, 1), c -> c.leave(5), c -> c.leave(0), c -> c.tick(0), c -> c.tick(51)
    };

    private static void refusedCalls() {
        Check.sentence("A method that throws an exception or returns an error code leaves the state unchanged");
        for (int i = 0; i < REFUSED.length; i++) {
            Check.Call call = REFUSED[i];
            CrowdSimulator none = settledDown();
            Check.same("29: refused " + i, Check.thrownBy(() -> call.on(none)).equals("nothing") ? 1 : 0, 0);
            Check.same("29: none by " + i, Check.thrownBy(none::undo), "IllegalStateException");
            CrowdSimulator one = settledDown();
            one.tick(1);
            Check.thrownBy(() -> call.on(one));
            Check.same("29: the one before " + i, one.undo(), 0);
            Check.same("29: its time " + i, one.statistic(0), 4);
        }
        CrowdSimulator error = settledDown();
        Check.read(error, "x");
        Check.same("29: none by an error", Check.thrownBy(error::undo), "IllegalStateException");
        CrowdSimulator wall = settledDown();
        wall.readMap();
        wall.restore();
        Check.feed(wall, "//111#");
        Check.same("29: refused, a wall on a goal", Check.thrownBy(wall::readMap), "IllegalStateException");
        Check.same("29: none by a refused map", Check.thrownBy(wall::undo), "IllegalStateException");
    }

    private static final Check.Call[] OTHERS = {
        c -> c.cell(0, 0, 0), c -> c.distance(0, 0, 0), c -> c.flow(0, 0, 0), c -> c.steps(0, 0, 0),
        c -> c.agent(0, 0), c -> c.agents(0), c -> c.disorder(3), c -> c.statistic(0), c -> c.forecast(4),
        c -> c.bottleneck(), c -> c.jams(), c -> c.jam(0, 0), c -> c.meanDistance(), c -> c.density(),
        c -> c.feed('1'), c -> c.map(0), c -> c.save()
    };

    private static void otherCalls() {
        Check.sentence("Takes back the latest change that was not taken back");
        for (int i = 0; i < OTHERS.length; i++) {
            Check.Call call = OTHERS[i];
            CrowdSimulator none = settledDown();
            Check.thrownBy(() -> call.on(none));
            Check.same("29: no change by " + i, Check.thrownBy(none::undo), "IllegalStateException");
            CrowdSimulator two = settledDown();
            two.tick(1);
            two.tick(1);
            Check.thrownBy(() -> call.on(two));
            Check.same("29: two changes before " + i, two.undo(), 1);
        }
    }

    private static void latestNotTakenBack() {
        Check.sentence("Takes back the latest change that was not taken back");
        CrowdSimulator crowd = new CrowdSimulator();
        for (int patience = 4; patience < 8; patience++) {
            crowd.setPatience(patience);
        }
        Check.same("29: the fourth", crowd.undo(), 3);
        Check.same("29: the third", crowd.undo(), 2);
        crowd.setPatience(9);
        Check.same("29: the fifth", crowd.undo(), 2);
        Check.same("29: the second", crowd.undo(), 1);
        Check.same("29: after the first", crowd.setPatience(0), 4);
        Check.same("29: the sixth", crowd.undo(), 1);
        Check.same("29: the first", crowd.undo(), 0);
        Check.same("29: before all", crowd.setPatience(0), 3);
    }

    /** Some changes, then fewer or more of them back, some 450 calls long; a stack tells what is due. */
    private static void roundAndRound() {
        Check.sentence("At most 8 changes can be taken back.");
        CrowdSimulator crowd = new CrowdSimulator();
        Deque<Integer> past = new ArrayDeque<>();
        int now = 1;
        for (int call = 0; call < 220; call++) {
            boolean isBack = call * call % 7 > 2 || call % 40 > 29;
            if (!isBack) {
                past.push(now);
                now = call % 9 + 1;
                crowd.setCell(6, 6, now);
                if (past.size() > 8) {
                    past.removeLast();
                }
            } else if (past.isEmpty()) {
                Check.same("29: none, call " + call, Check.thrownBy(crowd::undo), "IllegalStateException");
            } else {
                now = past.pop();
                Check.same("29: left, call " + call, crowd.undo(), past.size());
            }
            Check.same("29: the cost, call " + call, crowd.cell(6, 6, 0), now);
        }
    }

    private static void broughtBack() {
        Check.sentence("Taking back a change also brings back time, passes, statistics, waits and headings");
        CrowdSimulator crowd = Scenes.corridor();
        crowd.setGoal(0, 9, 0);
        crowd.add(4, 0, 0, 5);
        crowd.add(6, 0, -1, 5);
        crowd.tick(1);
        crowd.tick(49);
        Check.same("29: time then", crowd.statistic(0), 50);
        Check.same("29: heading then", crowd.agent(0, 4), 3);
        crowd.undo();
        Check.same("29: time", crowd.statistic(0), 1);
        Check.same("29: moves", crowd.statistic(1), 1);
        Check.same("29: moves of the third sort", crowd.statistic(3), 0);
        Check.same("29: waits that increased", crowd.statistic(4), 0);
        Check.same("29: passes of the first cell", crowd.cell(5, 0, 2), 1);
        Check.same("29: passes of the cell behind it", crowd.cell(4, 0, 2), 0);
        Check.same("29: heading", crowd.agent(0, 4), 1);
        Check.same("29: wait", crowd.agent(0, 5), 0);
        crowd.undo();
        Check.same("29: time at first", crowd.statistic(0), 0);
        Check.same("29: heading at first", crowd.agent(0, 4), 0);
        Check.same("29: place at first", Check.placeOf(crowd, 0), 4);
        crowd.tick(3);
        crowd.remove(0);
        crowd.undo();
        Check.same("29: heading of one that was removed", crowd.agent(0, 4), 1);
        Check.same("29: wait of one that was removed", crowd.agent(0, 5), 2);
    }

    private static void passesBroughtBack() {
        Check.sentence("Taking back a change also brings back time, passes, statistics, waits and headings");
        CrowdSimulator crowd = new CrowdSimulator();
        crowd.setGoal(0, 0, 0);
        crowd.setGoal(1, 13, 9);
        crowd.add(1, 0, 0, 0);
        crowd.add(12, 9, 1, 0);
        crowd.save();
        crowd.tick(1);
        Check.same("3: passes of the first and the last cell", crowd.cell(0, 0, 2) + crowd.cell(13, 9, 2), 2);
        crowd.undo();
        Check.same("29: taken back", crowd.cell(0, 0, 2) + crowd.cell(13, 9, 2), 0);
        crowd.tick(1);
        crowd.restore();
        Check.same("31: as saved", crowd.cell(0, 0, 2) + crowd.cell(13, 9, 2), 0);
    }

    /** Agent 15 has gone to the last cell, waits there, and has a leader and an offset; two of its changes are done. */
    private static CrowdSimulator sixteen() {
        CrowdSimulator crowd = Check.onMap("1#/#");
        crowd.setGoal(2, 13, 9);
        crowd.setGoal(3, 0, 0);
        for (int agent = 0; agent < 15; agent++) {
            crowd.add(agent % 5, 5 + agent / 5, -1, 0);
        }
        crowd.add(12, 9, 2, 9);
        crowd.tick(1);
        crowd.change(15, true, 3);
        crowd.tick(2);
        crowd.join(15, 14, 3, -2);
        return crowd;
    }

    private static final Check.Call[] CHANGES_OF_THE_LAST = {
        c -> c.tick(1), c -> c.change(15, true, -1), c -> c.change(15, false, 1), c -> c.join(15, 13, -1, 2),
        c -> c.join(15, 14, 3, 2), c -> c.join(15, 14, 2, -2), c -> c.leave(15), c -> c.remove(14), c -> c.remove(15)
    };

    private static String lastOf(CrowdSimulator crowd) {
        StringBuilder all = new StringBuilder();
        for (int what = 0; what < 9; what++) {
            all.append(crowd.agent(15, what)).append(' ');
        }
        return all.append(crowd.cell(13, 9, 2)).toString();
    }

    private static void lastOfSixteenBroughtBack() {
        Check.sentence("Taking back a change also brings back time, passes, statistics, waits and headings");
        String due = "13 9 3 9 1 2 14 7 5 1";
        CrowdSimulator crowd = sixteen();
        Check.same("29: agent 15", lastOf(crowd), due);
        for (int i = 0; i < CHANGES_OF_THE_LAST.length; i++) {
            CHANGES_OF_THE_LAST[i].on(crowd);
            crowd.undo();
            Check.same("29: agent 15 after change " + i, lastOf(crowd), due);
        }
        crowd.save();
        for (int i = 0; i < CHANGES_OF_THE_LAST.length; i++) {
            CHANGES_OF_THE_LAST[i].on(crowd);
            crowd.restore();
            Check.same("31: agent 15 after change " + i, lastOf(crowd), due);
        }
        crowd.remove(15);
        crowd.add(0, 9, -1, 5);
        crowd.tick(1);
        crowd.restore();
        Check.same("31: agent 15 after another one", lastOf(crowd), due);
        crowd.tick(1);
        Check.same("18: it goes to its slot", Check.placeOf(crowd, 15), 813);
    }

    private static void bufferStays() {
        Check.sentence("the input buffer stays");
        CrowdSimulator crowd = new CrowdSimulator();
        crowd.tick(1);
        Check.feed(crowd, "22");
        crowd.undo();
        Check.same("29: two stay", crowd.feed('2'), 3);
        Check.same("29: three are read", crowd.readMap(), 3);
        crowd.undo();
        Check.same("29: the map is taken back", crowd.cell(0, 0, 0), 1);
        Check.same("29: and not fed again", crowd.readMap(), 0);
        crowd.save();
        Check.feed(crowd, "33");
        crowd.restore();
        Check.same("31: two stay", crowd.feed('3'), 3);
    }

    // ---- save and restore

    private static void savedInPlace() {
        Check.sentence("in place of what was saved before");
        CrowdSimulator crowd = new CrowdSimulator();
        for (int round = 0; round < 10; round++) {
            crowd.setCell(3, 3, round);
            crowd.save();
            crowd.setCell(3, 3, 9);
        }
        crowd.setCell(3, 3, 1);
        crowd.restore();
        Check.same("30: the last one", crowd.cell(3, 3, 0), 9);
        crowd.setCell(3, 3, 4);
        crowd.save();
        crowd.setCell(3, 3, 5);
        crowd.restore();
        Check.same("30: a later one", crowd.cell(3, 3, 0), 4);
    }

    private static void savedWithoutTheRest() {
        Check.sentence("Saves everything but the input buffer and what can be taken back");
        CrowdSimulator crowd = Scenes.lively();
        crowd.save();
        CrowdSimulator due = Scenes.lively();
        due.save();
        due.restore();
        for (int change = 0; change < 8; change++) {
            Check.Call call = CHANGES[change];
            Check.thrownBy(() -> call.on(crowd));
        }
        crowd.tick(50);
        crowd.restore();
        Check.same("30: everything", Check.allOf(crowd), Check.allOf(due));
        CrowdSimulator saved = Scenes.lively();
        int left = saved.undo();
        saved.save();
        Check.same("30: what can be taken back is not touched", saved.undo(), left - 1);
        Check.same("30: nor is the buffer", saved.feed('1'), 5);
    }

    private static void savedAgents() {
        Check.sentence("Returns the number of agents.");
        CrowdSimulator none = new CrowdSimulator();
        Check.same("30: none", none.save(), 0);
        none.add(0, 0, -1, 0);
        Check.same("31: none", none.restore(), 0);
        CrowdSimulator full = Scenes.full();
        Check.same("30: sixteen", full.save(), 16);
        full.remove(15);
        full.remove(0);
        Check.same("31: sixteen", full.restore(), 16);
        Check.same("31: with their numbers", full.agents(0), 65535);
        full.remove(7);
        Check.same("30: fifteen", full.save(), 15);
        full.add(13, 9, -1, 0);
        Check.same("31: fifteen", full.restore(), 15);
    }

    private static void nothingSaved() {
        Check.sentence("Throws IllegalStateException if nothing was saved");
        Check.badState("31: a new object", CrowdSimulator::new, c -> c.restore());
        Check.badState("31: sixteen agents", Scenes::full, c -> c.restore());
        CrowdSimulator crowd = Scenes.full();
        crowd.tick(1);
        Check.same("31: refused", Check.thrownBy(crowd::restore), "IllegalStateException");
        Check.same("31: what can be taken back stays", crowd.undo(), 7);
        crowd.save();
        Check.same("31: saved at last", crowd.restore(), 16);
    }

    private static void staysSaved() {
        Check.sentence("Restores what was saved, which stays saved.");
        CrowdSimulator crowd = Scenes.lively();
        crowd.save();
        String place = crowd.agent(0, 0) + "," + crowd.agent(0, 1);
        for (int round = 0; round < 10; round++) {
            crowd.tick(round + 1);
            crowd.setCell(13, 9, 0);
            crowd.remove(round % 4);
            Check.same("31: round " + round, crowd.restore(), 5);
            Check.same("31: the time in round " + round, crowd.statistic(0), 4);
            Check.same("31: the cell in round " + round, crowd.cell(13, 9, 0), 1);
            Check.same("31: the agent in round " + round, crowd.agent(0, 0) + "," + crowd.agent(0, 1), place);
        }
        crowd.setPatience(9);
        crowd.undo();
        Check.same("31: undo does not touch it", crowd.restore(), 5);
    }

    private static void nothingAfterRestore() {
        Check.sentence("No change can be taken back afterwards.");
        for (int changes = 0; changes < 12; changes++) {
            CrowdSimulator crowd = new CrowdSimulator();
            crowd.save();
            for (int change = 0; change < changes; change++) {
                crowd.tick(1);
            }
            crowd.restore();
            Check.same("31: after " + changes, Check.thrownBy(crowd::undo), "IllegalStateException");
            crowd.setPatience(7);
            Check.same("29: a later one can", crowd.undo(), 0);
            Check.same("29: and no other", Check.thrownBy(crowd::undo), "IllegalStateException");
        }
    }
}
