/** Promises 26 to 28: a test for each sentence that names a boundary case of the buffer, of texts and of the map. */
public final class MapEdgesTest {
    private static final int LOW = Integer.MIN_VALUE;
    private static final int HIGH = Integer.MAX_VALUE;
    private static final String ROW = "12345678912345";
    private static final String WHOLE = "1#345678912345" + "/98765432198765".repeat(8) + "/############9#";

    public static void main(String[] args) {
        anyCharacter();
        fullBuffer();
        bufferComesRound();
        emptyAfterwards();
        emptyTexts();
        noEarlyEnd();
        characters();
        fifteenthCharacters();
        eleventhRows();
        errorPositions();
        errorsChangeNothing();
        cellsLeftOut();
        numberOfCells();
        wallsOnAgentsOrGoals();
        refusedTexts();
        errorBeforeException();
        mapIndices();
        mapOfRows();
        mapComesRound();
        Check.end("MapEdgesTest");
    }

    // ---- the buffer

    private static void anyCharacter() {
        Check.sentence("any character");
        for (int first = 0; first < 65536; first += 128) {
            CrowdSimulator crowd = new CrowdSimulator();
            int length = 0;
            for (int letter = first; letter < first + 128; letter++) {
                length = crowd.feed((char) letter);
            }
            Check.same("26: characters from " + first, length, 128);
        }
    }

    private static CrowdSimulator fed(String text) {
        CrowdSimulator crowd = new CrowdSimulator();
        Check.feed(crowd, text);
        return crowd;
    }

    private static void fullBuffer() {
        Check.sentence("Throws IllegalStateException if the buffer already holds 150 characters");
        CrowdSimulator crowd = new CrowdSimulator();
        for (int length = 1; length < 151; length++) {
            Check.same("26: up to 150", crowd.feed(WHOLE.charAt(length % 149)), length);
        }
        for (char letter : new char[] {'1', '#', '/', 'x', (char) 0, (char) 65535}) {
            String what = "26: a letter too many, " + (int) letter;
            Check.badState(what, () -> fed("x".repeat(150)), c -> c.feed(letter));
            Check.badState(what, () -> fed(WHOLE + "x"), c -> c.feed(letter));
        }
        CrowdSimulator whole = fed(WHOLE + "x");
        Check.thrownBy(() -> whole.feed('1'));
        Check.same("26: the 150 are as they were", whole.readMap(), -249);
    }

    private static void bufferComesRound() {
        Check.sentence("Returns the number of characters in the buffer.");
        CrowdSimulator crowd = new CrowdSimulator();
        for (int round = 0; round < 3; round++) {
            Check.same("26: full in round " + round, Check.feed(crowd, "2".repeat(150)), 150);
            Check.same("26: too many in round " + round, Check.thrownBy(() -> crowd.feed('2')), "IllegalStateException");
            Check.same("27: read in round " + round, crowd.readMap(), -114);
        }
        Check.same("26: one at last", crowd.feed('3'), 1);
        Check.same("27: nothing is left of before", crowd.readMap(), 1);
    }

    private static void emptyAfterwards() {
        Check.sentence("The buffer is empty afterwards, also after an error or an exception.");
        CrowdSimulator crowd = Scenes.inhabited();
        Check.same("27: read", Check.read(crowd, "55"), 2);
        Check.same("27: after a text", crowd.feed('5'), 1);
        Check.same("27: an error", Check.read(crowd, "5x5"), -102);
        Check.same("27: after an error", crowd.feed('/'), 1);
        Check.same("27: an exception", Check.thrownBy(() -> Check.read(crowd, "11#")), "IllegalStateException");
        Check.same("27: after an exception", crowd.feed('5'), 1);
        Check.same("27: the one alone", crowd.readMap(), 1);
        Check.same("27: none", crowd.readMap(), 0);
        Check.same("27: after none", crowd.feed('5'), 1);
    }

    // ---- texts

    private static void emptyTexts() {
        Check.sentence("An empty text is one empty row, and rows can be empty");
        String before = Check.mapOf(Check.onMap(WHOLE));
        for (int rows = 1; rows < 11; rows++) {
            CrowdSimulator crowd = Check.onMap(WHOLE);
            Check.same("27: empty rows, " + rows, Check.read(crowd, "/".repeat(rows - 1)), 0);
            Check.same("27: no cell is set by them", Check.mapOf(crowd), before);
        }
        CrowdSimulator crowd = new CrowdSimulator();
        Check.same("27: empty rows between others", Check.read(crowd, "2//4//////#/9"), 4);
        Check.same("27: the first", crowd.cell(0, 0, 0), 2);
        Check.same("27: the third", crowd.cell(0, 2, 0), 4);
        Check.same("27: the ninth", crowd.cell(0, 8, 0), 0);
        Check.same("27: the tenth", crowd.cell(0, 9, 0), 9);
    }

    private static void noEarlyEnd() {
        Check.sentence("a text cannot end too early");
        for (int length = 0; length < 150; length++) {
            String text = WHOLE.substring(0, length);
            int cells = text.replace("/", "").length();
            Check.same("27: the first " + length, Check.read(new CrowdSimulator(), text), cells);
        }
    }

    private static void characters() {
        Check.sentence("a character is # for a wall, or a digit from 1 to 9 for a cell with this cost");
        CrowdSimulator crowd = null;
        for (int letter = 0; letter < 65536; letter++) {
            if (letter % 128 == 0) {
                crowd = new CrowdSimulator();
            }
            boolean isCell = letter == '#' || letter >= '1' && letter <= '9';
            crowd.feed((char) letter);
            Check.same("27: character " + letter, crowd.readMap(), isCell ? 1 : letter == '/' ? 0 : -100);
            if (isCell) {
                Check.same("27: as a cell", crowd.cell(0, 0, 0), letter == '#' ? 0 : letter - '0');
            }
        }
    }

    private static void fifteenthCharacters() {
        Check.sentence("the character that cannot continue a text can be a fifteenth one of a row");
        for (int row = 0; row < 10; row++) {
            String before = "/".repeat(row);
            Check.same("27: fourteen in row " + row, Check.read(new CrowdSimulator(), before + ROW), 14);
            for (String fifteenth : new String[] {"1", "9", "#"}) {
                CrowdSimulator crowd = new CrowdSimulator();
                Check.same("27: fifteen in row " + row, Check.read(crowd, before + ROW + fifteenth), -114 - row);
                Check.same("27: and a sixteenth", Check.read(crowd, before + ROW + fifteenth + "x"), -114 - row);
            }
        }
    }

    private static void eleventhRows() {
        Check.sentence("a / behind the tenth row");
        CrowdSimulator crowd = new CrowdSimulator();
        Check.same("27: ten empty rows", Check.read(crowd, "/".repeat(9)), 0);
        Check.same("27: an eleventh", Check.read(crowd, "/".repeat(10)), -109);
        Check.same("27: and a twelfth", Check.read(crowd, "/".repeat(11)), -109);
        Check.same("27: behind one cell", Check.read(crowd, "/".repeat(9) + "1/"), -110);
        Check.same("27: behind a whole row", Check.read(crowd, "/".repeat(9) + ROW + "/"), -123);
        Check.same("27: behind ten whole rows", Check.read(new CrowdSimulator(), WHOLE + "/"), -249);
        Check.same("27: ten whole rows and one cell", Check.read(new CrowdSimulator(), WHOLE + "1"), -249);
    }

    private static void errorPositions() {
        Check.sentence("The error position of a text is the offset, from 0, of the first character that cannot continue"
            + " such a text");
        for (int length = 0; length < 150; length++) {
            String text = WHOLE.substring(0, length);
            Check.same("27: at " + length, Check.read(new CrowdSimulator(), text + "0"), -100 - length);
        }
        Check.same("27: the first of two", Check.read(new CrowdSimulator(), "12 0"), -102);
        Check.same("27: alone", Check.read(new CrowdSimulator(), ":"), -100);
    }

    private static void errorsChangeNothing() {
        Check.sentence("A method that throws an exception or returns an error code leaves the state unchanged, unless"
            + " its description says otherwise.");
        for (String text : new String[] {"x", "555x", "555/55/555x", ROW + "1", "5/////////5/", "#####0"}) {
            CrowdSimulator crowd = Scenes.inhabitedAndFed(text);
            Check.same("27: an error by " + text, crowd.readMap() <= -100 ? 1 : 0, 1);
            Check.same("27: nothing else by " + text, Check.allOf(crowd), Check.allOf(Scenes.inhabited()));
        }
    }

    private static void cellsLeftOut() {
        Check.sentence("A text can be read that has fewer rows, or shorter ones: the cells that are left out stay as"
            + " they are.");
        CrowdSimulator crowd = Check.onMap(WHOLE);
        Check.read(crowd, "777/7//" + ROW);
        String due = "777" + WHOLE.substring(3, 15) + "7" + WHOLE.substring(16, 45) + ROW + WHOLE.substring(59);
        Check.same("27: the map then", Check.mapOf(crowd), due);
        Check.read(crowd, "/////////2222222222222");
        Check.same("27: all but the last cell of the last row", Check.mapOf(crowd), due.substring(0, 135)
            + "2222222222222#");
    }

    private static void numberOfCells() {
        Check.sentence("Returns the number of cells that are set");
        CrowdSimulator crowd = new CrowdSimulator();
        Check.same("27: none", crowd.readMap(), 0);
        Check.same("27: one that is as it was", Check.read(crowd, "1"), 1);
        Check.same("27: all", Check.read(crowd, WHOLE), 140);
        Check.same("27: all once more", Check.read(crowd, WHOLE), 140);
        Check.same("27: the last one", Check.read(crowd, "/////////1") + crowd.cell(0, 9, 0), 2);
    }

    private static void wallsOnAgentsOrGoals() {
        Check.sentence("Throws IllegalStateException if a cell would become a wall, and an agent or a goal is on it");
        for (String text : new String[] {"/11#", "//111#", "/11#/111#", "###/###", "##############/##############"}) {
            CrowdSimulator crowd = Scenes.inhabitedAndFed(text);
            Check.same("27: " + text, Check.thrownBy(crowd::readMap), "IllegalStateException");
        }
        CrowdSimulator besides = Scenes.inhabited();
        Check.same("27: walls all round", Check.read(besides, "####/##2#/###2/####"), 16);
        besides.remove(0);
        besides.dropGoal(0);
        Check.same("27: nobody is there", Check.read(besides, "####/####/####"), 12);
        Check.same("27: walls on walls", Check.read(besides, "####/####/####"), 12);
        CrowdSimulator first = new CrowdSimulator();
        first.add(0, 0, -1, 0);
        Check.feed(first, "#");
        Check.same("27: the first cell", Check.thrownBy(first::readMap), "IllegalStateException");
        CrowdSimulator last = new CrowdSimulator();
        last.add(13, 9, -1, 0);
        String walls = "##############" + "/##############".repeat(8);
        Check.same("27: all but the last", Check.read(last, walls + "/#############1"), 140);
        Check.feed(last, walls + "/##############");
        Check.same("27: and the last", Check.thrownBy(last::readMap), "IllegalStateException");
    }

    private static void refusedTexts() {
        Check.sentence("If a text is refused because of a wall, no cell is set.");
        for (String text : new String[] {"555/55#", "555//555#/555", "#/11#/5", "/11#/111#"}) {
            CrowdSimulator crowd = Scenes.inhabitedAndFed(text);
            Check.same("27: " + text, Check.thrownBy(crowd::readMap), "IllegalStateException");
            Check.same("27: nothing else by " + text, Check.allOf(crowd), Check.allOf(Scenes.inhabited()));
        }
    }

    private static void errorBeforeException() {
        Check.sentence("-100 minus the error position after a syntax error");
        CrowdSimulator crowd = Scenes.inhabited();
        Check.same("27: a wall on an agent, then an error", Check.read(crowd, "555/55#0"), -107);
        Check.same("27: an error, then a wall on an agent", Check.read(crowd, "0/55#"), -100);
        Check.same("27: a wall on a goal, then an eleventh row", Check.read(crowd, "//555#////////"), -113);
        Check.same("27: no cell is set", crowd.cell(0, 0, 0) * 10 + crowd.cell(0, 1, 0), 91);
    }

    // ---- the map

    private static void mapIndices() {
        Check.sentence("A map as a text has 149 characters, with / between two rows only.");
        CrowdSimulator crowd = new CrowdSimulator();
        for (int i = 0; i < 149; i++) {
            Check.same("28: at " + i, crowd.map(i), i % 15 == 14 ? '/' : '1');
        }
        for (int i : new int[] {-1, 149, 150, -15, LOW, HIGH}) {
            Check.outOfBounds("28: at " + i, Scenes::lively, c -> c.map(i));
        }
    }

    private static void mapOfRows() {
        Check.sentence("the first row is that of y = 0, and its first character that of x = 0");
        int[][] due = {{0, 0, 0}, {13, 0, 13}, {0, 1, 15}, {13, 8, 133}, {0, 9, 135}, {13, 9, 148}};
        for (int[] row : due) {
            for (int cost = 0; cost < 10; cost++) {
                CrowdSimulator crowd = new CrowdSimulator();
                crowd.setCell(row[0], row[1], cost);
                Check.same("28: at " + row[2], crowd.map(row[2]), cost == 0 ? '#' : '0' + cost);
            }
        }
    }

    private static void mapComesRound() {
        Check.sentence("The text of a map consists of rows of characters with / between two of them, as many and as long"
            + " as the grid has");
        CrowdSimulator crowd = Check.onMap(WHOLE);
        String text = Check.mapOf(crowd);
        Check.same("28: the text that was read", text, WHOLE);
        CrowdSimulator other = new CrowdSimulator();
        Check.same("27: the text of a map", Check.read(other, text), 140);
        Check.same("28: and back", Check.mapOf(other), text);
    }
}
