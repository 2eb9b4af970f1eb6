/** Promises 26 to 28: the input buffer, maps as texts, and the map. */
public final class MapsTest {
    private static final int LOW = Integer.MIN_VALUE;
    private static final int HIGH = Integer.MAX_VALUE;
    private static final String ROW = "12345678912345";

    public static void main(String[] args) {
        feed();
        feedRefused();
        readMap();
        readShortMaps();
        errorPositions();
        readMapRefused();
        bufferIsEmptyAfterwards();
        map();
        mapRefused();
        Check.end("MapsTest");
    }

    private static CrowdSimulator fed() {
        CrowdSimulator crowd = new CrowdSimulator();
        Check.feed(crowd, "1".repeat(150));
        return crowd;
    }

    private static void feed() {
        CrowdSimulator crowd = new CrowdSimulator();
        char[] letters = {'1', '/', '#', (char) 0, (char) 255, (char) 65535, ' ', '0'};
        for (int i = 0; i < letters.length; i++) {
            Check.same("26: letter " + i, crowd.feed(letters[i]), i + 1);
        }
        Check.same("26: up to 150", Check.feed(crowd, "x".repeat(142)), 150);
        Check.same("26: the first bad letter", crowd.readMap(), -103);
        Check.same("26: from the beginning", crowd.feed('1'), 1);
    }

    private static void feedRefused() {
        CrowdSimulator crowd = fed();
        Check.same("26: a letter too many", Check.thrownBy(() -> crowd.feed('1')), "IllegalStateException");
        Check.same("26: once more", Check.thrownBy(() -> crowd.feed('/')), "IllegalStateException");
        Check.same("26: the buffer is as before", crowd.readMap(), -114);
        Check.same("26: then there is room", crowd.feed('1'), 1);
    }

    private static void readMap() {
        CrowdSimulator crowd = new CrowdSimulator();
        String whole = "1#345678912345" + "/98765432198765".repeat(8) + "/############9#";
        Check.same("27: a whole map", Check.read(crowd, whole), 140);
        Check.same("27: as it was", Check.mapOf(crowd), whole);
        Check.same("27: its second cell", crowd.cell(1, 0, 0), 0);
        Check.same("27: its third cell", crowd.cell(2, 0, 0), 3);
        Check.same("27: its last row", crowd.cell(12, 9, 0), 9);
        Check.same("27: its last cell", crowd.cell(13, 9, 0), 0);
        crowd.setGoal(0, 0, 0);
        Check.same("27: before", crowd.distance(0, 0, 2), 10);
        Check.read(crowd, "5/1/3");
        Check.same("27: fields follow", crowd.distance(0, 0, 2), 6);
        Check.same("27: what is left out stays", Check.mapOf(crowd), "5#345678912345/18765432198765/38765432198765"
            + "/98765432198765".repeat(6) + "/############9#");
        Check.same("27: a wall on a wall", Check.read(crowd, "5#"), 2);
        Check.same("27: a wall becomes a cell", Check.read(crowd, "55"), 2);
        Check.same("27: cost 5", crowd.cell(1, 0, 0), 5);
    }

    private static void readShortMaps() {
        CrowdSimulator crowd = new CrowdSimulator();
        Check.same("27: an empty text", crowd.readMap(), 0);
        Check.same("27: a change, too", crowd.undo(), 0);
        Check.same("27: two empty rows", Check.read(crowd, "/"), 0);
        Check.same("27: ten empty rows", Check.read(crowd, "/////////"), 0);
        Check.same("27: a cell in the last row", Check.read(crowd, "/////////4"), 1);
        Check.same("27: its cost", crowd.cell(0, 9, 0), 4);
        Check.same("27: rows of all lengths", Check.read(crowd, "22//3/#22/"), 6);
        Check.same("27: the first row", crowd.cell(1, 0, 0), 2);
        Check.same("27: the second row", crowd.cell(0, 1, 0), 1);
        Check.same("27: the third row", crowd.cell(0, 2, 0), 3);
        Check.same("27: the fourth row", crowd.cell(0, 3, 0), 0);
        Check.same("27: full rows", Check.read(crowd, ROW + "/" + ROW), 28);
        Check.same("27: a full row and ten rows", Check.read(crowd, ROW + "/1//1//////1"), 17);
    }

    private static void errorPositions() {
        String[] texts = {"0", ":", "a", " ", "111x", "1/0", "//a", ROW + "1", ROW + "#", ROW + "/" + ROW + "5",
            "//////////", "/////////1/", "/" + ROW + "///////x", "1\n", "1" + (char) 0, "1" + (char) 0x131,
            ROW + ":", "/////////" + ROW + "/", "." + "1".repeat(20), (ROW + "/").repeat(10), ROW + "0"};
        int[] due = {0, 0, 0, 0, 3, 2, 2, 14, 14, 29, 9, 10, 22, 1, 1, 1, 14, 23, 0, 149, 14};
        for (int i = 0; i < texts.length; i++) {
            CrowdSimulator crowd = Scenes.inhabitedAndFed(texts[i]);
            Check.same("27: error " + i, crowd.readMap(), -100 - due[i]);
            Check.same("27: no change by error " + i, Check.allOf(crowd), Check.allOf(Scenes.inhabited()));
        }
        CrowdSimulator crowd = Scenes.inhabitedAndFed("222/222/222#/x");
        Check.same("27: an error and no place for a wall", crowd.readMap(), -113);
        CrowdSimulator wall = Scenes.inhabitedAndFed("222/22#/x");
        Check.same("27: the error before the exception", wall.readMap(), -108);
    }

    private static void readMapRefused() {
        String[] texts = {"222/22#", "222//222#", "#/22#", "//333#", "222/22#/333#", "/##############"};
        for (String text : texts) {
            CrowdSimulator crowd = Scenes.inhabitedAndFed(text);
            Check.same("27: " + text, Check.thrownBy(crowd::readMap), "IllegalStateException");
            Check.same("27: no change by " + text, Check.allOf(crowd), Check.allOf(Scenes.inhabited()));
        }
        CrowdSimulator crowd = Scenes.inhabited();
        Check.same("27: beside both", Check.read(crowd, "###/##3#/###4#"), 3 + 4 + 5);
        Check.same("27: below both", crowd.cell(2, 1, 0) * 10 + crowd.cell(3, 2, 0), 34);
        crowd.remove(0);
        crowd.dropGoal(0);
        Check.same("27: when both are gone", Check.read(crowd, "/###/####"), 7);
    }

    private static void bufferIsEmptyAfterwards() {
        CrowdSimulator crowd = Scenes.inhabited();
        Check.read(crowd, "11");
        Check.same("27: empty after a map", crowd.feed('x'), 1);
        Check.same("27: an error", crowd.readMap(), -100);
        Check.same("27: empty after an error", Check.feed(crowd, "/11#"), 4);
        Check.same("27: an exception", Check.thrownBy(crowd::readMap), "IllegalStateException");
        Check.same("27: empty after an exception", crowd.readMap(), 0);
        Check.same("27: empty after an empty one", crowd.feed('1'), 1);
    }

    private static void map() {
        CrowdSimulator crowd = new CrowdSimulator();
        crowd.setCell(0, 0, 0);
        crowd.setCell(13, 0, 2);
        crowd.setCell(0, 1, 3);
        crowd.setCell(13, 9, 9);
        int[] indices = {0, 1, 13, 14, 15, 16, 29, 30, 134, 135, 147, 148};
        String due = "#12/31/1/119";
        for (int i = 0; i < indices.length; i++) {
            Check.same("28: at " + indices[i], crowd.map(indices[i]), due.charAt(i));
        }
        crowd.add(1, 0, -1, 0);
        crowd.setGoal(0, 1, 0);
        Check.same("28: agents and goals do not matter", crowd.map(1), '1');
    }

    private static void mapRefused() {
        for (int i : new int[] {-1, 149, 150, LOW, HIGH}) {
            Check.outOfBounds("28: at " + i, Scenes::inhabited, c -> c.map(i));
        }
    }
}
