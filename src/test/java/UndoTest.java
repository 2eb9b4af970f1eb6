/** Promises 29 to 31: what is taken back, saved and restored. */
public final class UndoTest {
    public static void main(String[] args) {
        everyChange();
        noChanges();
        eightChanges();
        undoAndThenMore();
        undoRefused();
        buffer();
        save();
        saveAgain();
        restore();
        restoreRefused();
        Check.end("UndoTest");
    }

    private static final Check.Call[] CHANGES = {
        c -> c.setCell(8, 8, 0), c -> c.setCell(8, 8, 1), c -> c.setGoal(0, 0, 0), c -> c.setGoal(2, 9, 0),
        c -> c.dropGoal(1), c -> c.setPatience(7), c -> c.setPatience(1), c -> c.add(12, 3, 1, 8),
        c -> c.remove(2), c -> c.remove(3), c -> c.change(0, true, -1), c -> c.change(0, false, 0),
        c -> c.change(1, true, 1), c -> c.join(0, 3, -1, 2), c -> c.join(2, 3, 2, 2), c -> c.leave(2),
        c -> c.tick(1), c -> c.tick(50), c -> c.readMap()
    };

    private static void everyChange() {
        for (int i = 0; i < CHANGES.length; i++) {
            CrowdSimulator crowd = Scenes.calm();
            CHANGES[i].on(crowd);
            Check.same("29: change " + i, crowd.undo(), 0);
            Check.same("29: all as before change " + i, Check.allOf(crowd), Check.allOf(Scenes.calm()));
        }
        CrowdSimulator crowd = Scenes.calm();
        Check.read(crowd, "5555/##55");
        Check.same("29: a map", crowd.cell(0, 0, 0), 5);
        crowd.setGoal(3, 0, 0);
        Check.same("29: before the map's undo", crowd.distance(3, 1, 0), 5);
        Check.same("29: the goal", crowd.undo(), 1);
        Check.same("29: the map", crowd.undo(), 0);
        Check.same("29: all as before the map", Check.allOf(crowd), Check.allOf(Scenes.calm()));
        CrowdSimulator fields = Scenes.calm();
        int before = fields.distance(0, 2, 1);
        fields.setCell(3, 2, 9);
        Check.same("29: the distance after", fields.distance(0, 2, 1) - before, 8);
        fields.undo();
        Check.same("29: the distance before", fields.distance(0, 2, 1), before);
    }

    private static final Check.Call[] NO_CHANGES = {
        c -> c.setCell(8, 8, 10), c -> c.setCell(14, 8, 1), c -> c.setGoal(0, 0, 1), c -> c.dropGoal(3),
        c -> c.setPatience(10), c -> c.add(0, 1, 1, 8), c -> c.remove(4), c -> c.change(0, true, 4),
        c -> c.join(3, 0, 1, 1), c -> c.leave(3), c -> c.tick(0), c -> c.feed('0'), c -> c.forecast(1),
        c -> c.disorder(3), c -> c.distance(0, 0, 0), c -> c.jams(), c -> c.meanDistance(), c -> c.save(),
        c -> c.jam(0, 0), c -> c.bottleneck(), c -> c.map(7), c -> c.agents(0), c -> c.statistic(1)
    };

    private static void noChanges() {
        for (int i = 0; i < NO_CHANGES.length; i++) {
            Check.Call call = NO_CHANGES[i];
            CrowdSimulator crowd = Scenes.calm();
            Check.thrownBy(() -> call.on(crowd));
            Check.badState("29: nothing to take back behind " + i, () -> crowdAfter(call), c -> c.undo());
        }
        CrowdSimulator error = Scenes.calm();
        Check.read(error, "x");
        Check.same("29: behind an error", Check.thrownBy(error::undo), "IllegalStateException");
        CrowdSimulator refused = Scenes.calm();
        refused.setGoal(0, 0, 0);
        Check.feed(refused, "#");
        Check.thrownBy(refused::readMap);
        Check.same("29: behind a refused map", refused.undo(), 0);
    }

    private static CrowdSimulator crowdAfter(Check.Call call) {
        CrowdSimulator crowd = Scenes.calm();
        Check.thrownBy(() -> call.on(crowd));
        return crowd;
    }

    private static void eightChanges() {
        CrowdSimulator crowd = new CrowdSimulator();
        for (int cost = 1; cost < 10; cost++) {
            crowd.setCell(4, 4, cost);
        }
        crowd.setCell(4, 4, 0);
        for (int left = 7; left >= 0; left--) {
            Check.same("29: left", crowd.undo(), left);
            Check.same("29: the cost of then", crowd.cell(4, 4, 0), left + 2);
        }
        Check.same("29: not the ninth", Check.thrownBy(crowd::undo), "IllegalStateException");
        Check.same("29: as it is", crowd.cell(4, 4, 0), 2);
        crowd.setCell(4, 4, 7);
        Check.same("29: one again", crowd.undo(), 0);
        Check.same("29: the cost before it", crowd.cell(4, 4, 0), 2);
    }

    private static void undoAndThenMore() {
        CrowdSimulator crowd = new CrowdSimulator();
        crowd.setPatience(4);
        crowd.setPatience(5);
        crowd.setPatience(6);
        Check.same("29: one back", crowd.undo(), 2);
        crowd.setPatience(7);
        Check.same("29: the later one back", crowd.undo(), 2);
        Check.same("29: the earlier one back", crowd.undo(), 1);
        Check.same("29: the first one back", crowd.undo(), 0);
        Check.same("29: the first patience", crowd.setPatience(0), 3);
        for (int i = 1; i < 10; i++) {
            crowd.setPatience(i);
        }
        for (int i = 0; i < 5; i++) {
            crowd.undo();
        }
        crowd.setPatience(9);
        crowd.setPatience(8);
        Check.same("29: five of eight", crowd.undo(), 4);
        Check.same("29: four of eight", crowd.undo(), 3);
        Check.same("29: the patience of then", crowd.setPatience(0), 4);
    }

    private static void undoRefused() {
        Check.badState("29: nothing yet", Scenes::calm, c -> c.undo());
        Check.badState("29: all taken back", () -> {
            CrowdSimulator crowd = Scenes.calm();
            crowd.tick(2);
            crowd.undo();
            return crowd;
        }, c -> c.undo());
    }

    private static void buffer() {
        CrowdSimulator crowd = new CrowdSimulator();
        crowd.setCell(0, 0, 4);
        crowd.feed('2');
        crowd.save();
        crowd.undo();
        Check.same("29: the buffer stays", crowd.feed('3'), 2);
        crowd.restore();
        Check.same("31: the buffer stays", crowd.feed('5'), 3);
        Check.same("31: it is read", crowd.readMap(), 3);
        crowd.undo();
        Check.same("29: a read buffer stays empty", crowd.feed('6'), 1);
        crowd.restore();
        Check.same("31: an empty buffer is not brought back", crowd.readMap(), 1);
        Check.same("31: it was 6", crowd.cell(0, 0, 0), 6);
    }

    private static void save() {
        CrowdSimulator crowd = Scenes.calm();
        Check.same("30: four agents", crowd.save(), 4);
        Check.same("30: no agents", new CrowdSimulator().save(), 0);
        crowd.setCell(8, 8, 3);
        Check.same("30: changes can still be taken back", crowd.save() + crowd.undo(), 4);
        crowd.setPatience(5);
        crowd.add(12, 3, -1, 0);
        Check.same("30: five agents", crowd.save(), 5);
        Check.same("30: undo goes behind it", crowd.undo(), 1);
        Check.same("30: the agents then", crowd.agents(0), 15);
        Check.same("31: and restore to it", crowd.restore(), 5);
    }

    private static void saveAgain() {
        CrowdSimulator crowd = new CrowdSimulator();
        crowd.setCell(0, 0, 4);
        crowd.save();
        crowd.setCell(0, 0, 5);
        crowd.save();
        crowd.setCell(0, 0, 6);
        crowd.restore();
        Check.same("30: in place of what was saved", crowd.cell(0, 0, 0), 5);
        crowd.setCell(0, 0, 7);
        crowd.restore();
        Check.same("31: it stays saved", crowd.cell(0, 0, 0), 5);
        crowd.tick(1);
        crowd.restore();
        Check.same("31: and once more", crowd.statistic(0), 0);
    }

    private static void restore() {
        for (int i = 0; i < CHANGES.length; i++) {
            CrowdSimulator crowd = Scenes.calm();
            CHANGES[i].on(crowd);
            crowd.tick(1);
            Check.same("31: after change " + i, crowd.restore(), 4);
            Check.same("31: nothing to take back " + i, Check.thrownBy(crowd::undo), "IllegalStateException");
            Check.same("31: all as saved " + i, Check.allOf(crowd), Check.allOf(Scenes.calm()));
        }
        CrowdSimulator fields = Scenes.calm();
        int before = fields.distance(0, 2, 1);
        fields.setCell(3, 2, 9);
        Check.same("31: the distance after", fields.distance(0, 2, 1) - before, 8);
        fields.restore();
        Check.same("31: the distance before", fields.distance(0, 2, 1), before);
        CrowdSimulator patient = new CrowdSimulator();
        patient.setPatience(8);
        patient.save();
        patient.setPatience(2);
        patient.restore();
        Check.same("31: the patience", patient.setPatience(0), 8);
        Check.same("31: a change can be taken back again", patient.undo(), 0);
        Check.same("31: to what was restored", patient.setPatience(0), 8);
    }

    private static void restoreRefused() {
        Check.badState("31: nothing saved", () -> {
            CrowdSimulator crowd = new CrowdSimulator();
            crowd.add(3, 3, -1, 3);
            crowd.tick(1);
            return crowd;
        }, c -> c.restore());
        CrowdSimulator crowd = new CrowdSimulator();
        crowd.setCell(0, 0, 4);
        Check.same("31: refused", Check.thrownBy(crowd::restore), "IllegalStateException");
        Check.same("31: what can be taken back stays", crowd.undo(), 0);
    }
}
