import java.io.IOException;
import java.nio.file.Files;
import java.nio.file.Path;
import java.util.ArrayList;
import java.util.Arrays;
import java.util.List;
import java.util.regex.Pattern;

/**
 * Each sentence of ../shared/DOC.md that names a boundary, as the document has it, with tests of its own.
 * At the end it is looked whether each such sentence of the document is among them.
 */
public final class EdgeTests {
    private static final String OPEN = "B:......../......../......../......../......../......../......../........";
    /** Laid, she neither goes by her head nor slides. */
    private static final String STANDS = " set(0,0)=3 set(5,9)=5 sail(0)=1 ";
    private static final int LEAST = Integer.MIN_VALUE;
    private static final int MOST = Integer.MAX_VALUE;
    /** The cells round the middle one of a bay of three by three, by direction. */
    private static final int[] ROUND = {1, 2, 5, 8, 7, 6, 3, 0};
    private static final List<String> QUOTED = new ArrayList<>();

    public static void main(String[] args) throws IOException {
        letters();
        bays();
        cellsAndDirections();
        settings();
        book();
        laid();
        kinds();
        holdAndLoad();
        goneAndSlid();
        into();
        waterAndKind();
        heads();
        headsThroughTheWind();
        wearsAndHauls();
        anchorsAndTheRest();
        lives();
        still();
        lineAndLighter();
        holdsAndBeachBest();
        plan();
        stood();
        worth();
        light();
        night();
        logs();
        images();
        refusals();
        counts();
        manyCalls();
        everyBoundaryIsQuoted(Path.of(args.length > 0 ? args[0] : "../shared/DOC.md"));
        Script.end("edges");
    }

    private static void edge(String sentence, String... scripts) {
        QUOTED.add(sentence);
        for (String script : scripts) Script.check(sentence, script);
    }

    // ---- the bay

    private static void letters() {
        edge("`Embayed()`: No BAY.",
            "count(0)=0 count(1)=0 count(2)=0 count(3)=0 count(4)=0 count(5)=0 count(6)=0 count(11)=0 count(12)=0 count(13)=0 count(14)=0 count(15)=0 count(16)=0",
            "!cell(0)=-1 !lays(0)=-1 !now(0)=-3 !still(0)=-1 !holds(0,0,0)=-1 !stood(0,0)=-1 clears()=0 light()=-9 beachBest()=-9 image()=0");
        edge("A letter (0 .. 255) comes: how many there are. -4; -6 (255; 80, too).",
            "letter(0)=1 letter(255)=2 count(5)=2",
            "!letter(-1)=-4 !letter(256)=-6 !letter(" + LEAST + ")=-4 !letter(" + MOST + ")=-6 count(5)=0",
            told(79) + "letter(46)=80 !letter(46)=-6 !letter(0)=-6 count(5)=80",
            told(80) + "!letter(-1)=-4 !letter(256)=-6");
        edge("one by one (80 at most)", told(80) + "bay()=-1008 count(5)=0 " + told(80) + "!letter(47)=-6");
    }

    private static String told(int letters) {
        StringBuilder calls = new StringBuilder();
        for (int i = 1; i <= letters; i++) calls.append("letter(46)=").append(i).append(' ');
        return calls.toString();
    }

    private static String fault(String text, int place) {
        return "L:" + text + " count(5)=" + text.length() + " bay()=" + (-1000 - place) + " count(5)=0 count(0)=0 count(1)=0";
    }

    private static void bays() {
        edge("ROWS with \"/\" between", "B:../..", fault("/../..", 0), fault("..//..", 3), fault("../../", 6), fault("../", 3), fault("/", 0));
        edge("2 .. 8 ROWS of as many CELLS each, 2 .. 8",
            // rows
            fault("..", 2), fault("........", 8), "B:../.. count(0)=2 count(1)=2", "B:../../../../../../../.. count(0)=8 count(1)=2", fault("../../../../../../../../", 23),
            fault("../../../../../../../../..", 23),
            // columns
            fault("./.", 1), "B:......../........ count(0)=2 count(1)=8", fault("........./.........", 8), fault("........#", 8),
            // as many in each
            fault(".../..", 6), fault(".../../...", 6), fault(".../....", 7), fault("../.../..", 5), fault("../../../.", 10),
            OPEN + " count(0)=8 count(1)=8 cell(63)=20");
        edge("a digit 1 .. 9 SEA of that DEPTH", "B:123/456/789 cell(0)=1 cell(1)=2 cell(2)=3 cell(3)=4 cell(4)=5 cell(5)=6 cell(6)=7 cell(7)=8 cell(8)=9",
            fault("0", 0), fault("1:", 1), fault("10", 1));
        edge("\"#\" LAND, \"b\" BEACH", "B:#b/b# cell(0)=0 cell(1)=30 cell(2)=30 cell(3)=0", fault("\"", 0), fault("$", 0), fault("a", 0), fault("c", 0), fault("B", 0));
        edge("\".\" deep SEA (DEPTH 20)", "B:../.. cell(0)=20 cell(3)=20", fault("-", 0), fault(",", 0));
        edge("FAULT: the place of the first letter with which no BAY can go on (the end, if something lacks): -1000 less the place (nothing is counted).",
            "bay()=-1000 count(11)=0 count(12)=0 count(13)=0 count(14)=0 count(15)=0 count(16)=0",
            fault(".", 1), fault("..", 2), fault("../", 3), fault("../.", 4), fault("x", 0), fault("..x0", 2), fault("../.x.x", 4), fault("......../.......", 16),
            "letter(0)=1 bay()=-1000", "letter(46)=1 letter(255)=2 bay()=-1001",
            "L:../..x bay()=-1005 count(11)=0 count(12)=0 count(13)=0 count(14)=0 count(15)=0 count(16)=0",
            told(80) + "bay()=-1008");
        edge("The letters become the BAY, and are no more (with a FAULT neither): how many CELLS (no SHIP is in it); the FAULT (nothing is counted).",
            "L:../.. bay()=4 count(5)=0 bay()=-1000 letter(46)=1",
            "L:.. bay()=-1002 count(5)=0 bay()=-1000",
            // a ship is in the old bay, none in the new one
            "B:../.. lays(0)=4 count(6)=1 B:../.. count(6)=0 !now(0)=-3",
            // with a fault all but the letters is as it was
            "B:#b./59. lays(2)=4 sail(2)=1 L:../x bay()=-1003 count(0)=2 count(1)=3 cell(1)=30 count(6)=1 now(0)=2 now(2)=2");
    }

    private static void cellsAndDirections() {
        edge("CELL c is in row c by the COLUMNS (cut)",
            "B:123/456 set(1,1)=3 lays(2)=4 wear(4)=2 now(0)=5",
            // from the last cell of a row she goes beyond the bay, not into the next row; so from the first
            "B:.../.../... set(0,0)=3 set(5,9)=5 lays(2)=4 sail(3)=1 head(2)=2 run(1)=1 run(1)=8 now(0)=-9 lays(3)=4 sail(3)=1 head(6)=2 run(2)=8 now(0)=-9");
        edge("Of a CELL: 0 LAND, 1 .. 20 DEPTH, 30 BEACH. -1.",
            "B:#b1/9.# cell(0)=0 cell(1)=30 cell(2)=1 cell(3)=9 cell(4)=20 cell(5)=0 !cell(6)=-1 !cell(-1)=-1 !cell(" + LEAST + ")=-1 !cell(" + MOST + ")=-1",
            OPEN + " cell(63)=20 !cell(64)=-1 B:../.. cell(3)=20 !cell(4)=-1");
        edge("DIRECTIONS 0 .. 7: 0 up (a row less), 1 up and right, 2 right, .. 7 up and left.", eachWay());
        edge("The WIND comes from one (0 at first)", "B:../.. lays(0)=4 now(10)=0");
        edge("LEE is the other way (and 4, gone round).",
            "B:../.. lays(0)=4 wind(0,1)=1 lays(0)=5 wind(0,2)=2 lays(0)=6 wind(0,3)=3 lays(0)=7 wind(0,4)=4 lays(0)=0 wind(0,5)=5 lays(0)=1 wind(0,6)=6 lays(0)=2 wind(0,7)=7 lays(0)=3");
        edge("APART of two DIRECTIONS: 0 .. 4.",
            "B:../.. set(4,1)=2 lays(0)=4 head(1)=1 head(2)=2 head(3)=3 head(4)=4 head(5)=3 head(6)=2 head(7)=1 !head(0)=-3",
            "B:../.. set(4,1)=2 wind(0,7)=1 lays(0)=3 head(0)=1 head(1)=2 head(2)=3 head(3)=4 head(4)=3 head(5)=2 head(6)=1 !head(7)=-3",
            "B:../.. set(4,1)=2 wind(0,3)=1 lays(0)=7 head(0)=3 head(1)=2 head(2)=1 head(4)=1 head(5)=2 head(6)=3 head(7)=4 !head(3)=-3");
    }

    /** In a bay of three by three she is worn from the middle to each cell round it, and from there beyond the bay. */
    private static String eachWay() {
        StringBuilder calls = new StringBuilder("B:.../.../...");
        for (int wind = 0; wind < 8; wind++) {
            int lee = (wind + 4) % 8;
            calls.append(" wind(0,").append(wind).append(")=").append(wind + 1);
            calls.append(" lays(4)=").append(lee).append(" wear(").append(lee).append(")=2 now(0)=").append(ROUND[lee]);
            calls.append(" wear(").append(lee).append(")=8 now(0)=-9");
        }
        return calls.toString();
    }

    private static void settings() {
        edge("0 SEA (0 .. 9; 3)", "set(0,0)=3 set(0,9)=0 !set(0,-1)=-4 !set(0,10)=-6 set(0,5)=9");
        edge("1 DRAFT (1 .. 9; 3)", "set(1,1)=3 set(1,9)=1 !set(1,0)=-4 !set(1,-1)=-4 !set(1,10)=-6 set(1,5)=9");
        edge("2 LEAK (0 .. 9; 0)", "set(2,9)=0 set(2,0)=9 !set(2,-1)=-4 !set(2,10)=-6 set(2,5)=0");
        edge("3 CREW (0 .. 60; 40)", "set(3,0)=40 set(3,60)=0 !set(3,-1)=-4 !set(3,61)=-6 set(3,5)=60");
        edge("4 NEAR (1 .. 3; 2): no nearer to the WIND than that she can lie", "set(4,1)=2 set(4,3)=1 !set(4,0)=-4 !set(4,-1)=-4 !set(4,4)=-6 set(4,2)=3",
            "B:../.. set(4,1)=2 lays(0)=4 !head(0)=-3 head(1)=1", "B:../.. lays(0)=4 !head(1)=-3 !head(7)=-3 head(2)=2", "B:../.. set(4,3)=2 lays(0)=4 !head(2)=-3 !head(6)=-3 head(3)=3");
        edge("5 GUNS (0 .. 9; 5)", "set(5,0)=5 set(5,9)=0 !set(5,-1)=-4 !set(5,10)=-6 set(5,3)=9 B:../.. lays(0)=4 now(12)=3");
        edge("6 DARK (0 .. 99; 30): from that TEN on it is dark.", "set(6,0)=30 set(6,99)=0 !set(6,-1)=-4 !set(6,100)=-6 set(6,5)=99",
            "B:../## set(6,1)=30 lays(0)=4 wear(4)=6 now(13)=16 set(6,0)=1 lays(0)=4 wear(4)=6 now(13)=4",
            "B:../## lays(0)=4" + STANDS + "run(29)=1 wear(4)=6 now(13)=16 lays(0)=4 sail(0)=1 run(30)=1 wear(4)=6 now(13)=4",
            "B:../## set(6,99)=30 lays(0)=4" + STANDS + "run(98)=1 wear(4)=6 now(13)=16 lays(0)=4 sail(0)=1 run(99)=1 wear(4)=6 now(13)=4");
        edge("A SETTING: what it was. -2; -4; -6.", "!set(-1,0)=-2 !set(7,0)=-2 !set(" + LEAST + ",0)=-2 !set(" + MOST + ",0)=-2 !set(7,-1)=-2 !set(-1,1000)=-2",
            "!set(0," + LEAST + ")=-4 !set(6," + MOST + ")=-6");
    }

    private static void book() {
        edge("A BOOK: SHIFTS (8 at most): from a TEN on the WIND is so", eight("wind") + "!wind(0,1)=-6 count(2)=8 B:../.. count(2)=8 !wind(5,1)=-6",
            "wind(2,4)=1 B:../.. lays(0)=4" + STANDS + "now(10)=0 run(1)=1 now(10)=0 run(1)=1 now(10)=4 run(1)=1 now(10)=4 run(97)=1 now(10)=4");
        edge("TIDES (8 at most): from a TEN on the water is so much higher (0 .. 5; 0 at first)", eight("tide") + "!tide(0,1)=-6 count(3)=8 B:../.. count(3)=8 !tide(5,1)=-6",
            "B:../.. lays(0)=4" + STANDS + "now(11)=0 tide(0,5)=1 now(11)=5 tide(0,0)=2 now(11)=0 tide(2,3)=3 run(1)=1 now(11)=0 run(1)=1 now(11)=3 run(1)=1 now(11)=3");
        edge("of several the latest that has come, of alike the one told later (between TENS, too, by TEN as it is)",
            "B:../.. lays(0)=4" + STANDS + "wind(5,2)=1 wind(3,6)=2 wind(0,1)=3 now(10)=1 run(3)=1 now(10)=6 run(1)=1 now(10)=6 run(1)=1 now(10)=2",
            "B:../.. lays(0)=4" + STANDS + "tide(5,2)=1 tide(3,4)=2 tide(0,1)=3 now(11)=1 run(3)=1 now(11)=4 run(1)=1 now(11)=4 run(1)=1 now(11)=2",
            "B:../.. lays(0)=4" + STANDS + "wind(1,2)=1 wind(1,7)=2 tide(1,5)=1 tide(1,4)=2 run(1)=1 now(10)=7 now(11)=4 wind(1,2)=3 now(10)=2 wind(0,5)=4 now(10)=2",
            // between tens the acts, too, have the wind of the ten to come
            "B:../.. lays(0)=4" + STANDS + "wind(1,2)=1 head(2)=2 head(3)=3 run(1)=1 !head(2)=-3 !head(3)=-3 head(4)=2",
            "B:../2. lays(0)=4" + STANDS + "tide(1,1)=1 run(1)=1 wear(4)=2 now(0)=2 lays(0)=4 wear(4)=6");
        edge("A SHIFT more: how many. -1 DIRECTION; -4; -6 (999; 8, too).",
            "wind(0,0)=1 wind(999,7)=2 !wind(0,8)=-1 !wind(0,-1)=-1 !wind(-1,0)=-4 !wind(1000,0)=-6 count(2)=2",
            "!wind(-1,8)=-1 !wind(1000,-1)=-1 !wind(" + LEAST + "," + MOST + ")=-1 !wind(" + LEAST + ",0)=-4 !wind(" + MOST + ",7)=-6 !wind(0," + LEAST + ")=-1",
            eight("wind") + "!wind(0,8)=-1 !wind(-1,0)=-4 !wind(1000,0)=-6 !wind(999,0)=-6",
            "wind(999,5)=1 B:../.. lays(0)=4" + STANDS + "run(99)=1 run(99)=1 run(99)=1 run(99)=1 run(99)=1 run(99)=1 run(99)=1 run(99)=1 run(99)=1 run(99)=1 run(8)=1"
                + " now(8)=998 now(10)=0 run(1)=1 now(8)=999 now(10)=5");
        edge("A TIDE more: how many. -4; -6 (999; 5; 8, too).",
            "tide(0,0)=1 tide(999,5)=2 !tide(-1,0)=-4 !tide(0,-1)=-4 !tide(1000,0)=-6 !tide(0,6)=-6 count(3)=2",
            "!tide(-1,6)=-4 !tide(1000,-1)=-4 !tide(" + MOST + "," + LEAST + ")=-4 !tide(" + LEAST + "," + MOST + ")=-4 !tide(0," + MOST + ")=-6 !tide(" + MOST + ",0)=-6",
            eight("tide") + "!tide(-1,0)=-4 !tide(0,-1)=-4 !tide(0,6)=-6 !tide(999,5)=-6");
    }

    private static String eight(String name) {
        StringBuilder calls = new StringBuilder();
        for (int i = 1; i <= 8; i++) calls.append(name).append("(0,1)=").append(i).append(' ');
        return calls.toString();
    }

    // ---- the ship

    private static void laid() {
        edge("SAIL (0 .. 3), MASTS (0 .. 3), ANCHORS (0 .. 3), WATER (0 .. 100)",
            "B:../.. lays(0)=4 sail(0)=1 now(2)=0 sail(3)=0 now(2)=3 axe()=2 axe()=1 axe()=0 now(3)=0 !axe()=-3 haul(2)=1 haul(2)=0 now(4)=0 !haul(2)=-3 now(5)=0",
            "B:../.. set(2,9)=0 set(3,0)=40 lays(0)=4 anchor()=2 run(11)=4 now(5)=99 run(1)=7 now(5)=100 run(9)=7 now(5)=100");
        edge("A SHIP is LAID in a CELL of SEA no less deep than her DRAFT (no TIDE)",
            "B:#b2/34. !lays(0)=-3 !lays(1)=-3 !lays(2)=-3 lays(3)=4 lays(4)=4 lays(5)=4",
            "tide(0,5)=1 B:12/.. !lays(0)=-3 !lays(1)=-3 set(1,2)=3 !lays(0)=-3 lays(1)=4 set(1,1)=2 lays(0)=4",
            "B:89/.. set(1,9)=3 !lays(0)=-3 lays(1)=4 set(1,8)=9 lays(0)=4");
        edge("LOSING, with 3 MASTS, 2 ANCHORS, no WATER, GONE, SLID, SAIL 1, HEAD to LEE, TEN 0",
            OPEN + " wind(3,6)=1 lays(9)=4 sail(3)=1 haul(2)=1 axe()=2 set(2,9)=0 set(3,0)=40 run(4)=1 now(5)=36 now(8)=4 now(10)=6 lays(10)=4 now(0)=10 now(1)=4 now(2)=1 now(3)=3"
                + " now(4)=2 now(5)=0 now(6)=0 now(7)=0 now(8)=0 now(9)=1 now(10)=0",
            "B:../## lays(0)=4 wear(4)=6 lays(0)=4 now(9)=1 now(13)=40 anchor()=2 lays(0)=4 now(9)=1");
        edge("a new BAY has none till then (TEN is 0 then, too)",
            "B:###/#.#/#.# wind(3,4)=1 lays(4)=4" + STANDS + "run(3)=1 still(7)=-9 B:###/#.#/#.# count(6)=0 still(7)=1 lays(4)=4 now(8)=0",
            "B:../.. lays(0)=4 run(9)=8 B:../.. !run(1)=-3 !line()=-3 !judge()=-3 !anchor()=-3 !sail(1)=-3");
        edge("The SHIP is LAID: HEAD. -1; -3 it is not such a CELL.", "B:../#. !lays(4)=-1 !lays(-1)=-1 !lays(" + LEAST + ")=-1 !lays(" + MOST + ")=-1 !lays(2)=-3 lays(0)=4 lays(3)=4",
            // she who is in the bay stays as she is
            "B:../#. lays(1)=4 sail(3)=1 run(1)=1 !lays(4)=-1 !lays(2)=-3 now(0)=3 now(2)=3 now(8)=1");
        edge("0 CELL, 1 HEAD, 2 SAIL, 3 MASTS, 4 ANCHORS, 5 WATER, 6 GONE, 7 SLID, 8 TEN, 9 KIND, 10 WIND, 11 TIDE, 12 GUNS, 13 LIVES. -2; -3 no SHIP.",
            "!now(-1)=-2 !now(14)=-2 !now(" + LEAST + ")=-2 !now(" + MOST + ")=-2 !now(0)=-3 !now(13)=-3",
            "B:../.. !now(0)=-3 !now(10)=-3 !now(13)=-3 !now(14)=-2 lays(0)=4 now(0)=0 now(13)=40 !now(14)=-2 !now(-1)=-2");
        edge("n TENS (1 .. 99): KIND. -4; -6; -3 no SHIP.", "!run(0)=-4 !run(-1)=-4 !run(100)=-6 !run(1)=-3 !run(99)=-3 !run(" + LEAST + ")=-4 !run(" + MOST + ")=-6",
            "B:../.. !run(0)=-4 !run(1)=-3 lays(0)=4" + STANDS + "!run(0)=-4 !run(100)=-6 run(1)=1 now(8)=1 run(99)=1 now(8)=100");
    }

    private static void kinds() {
        edge("0 GAINING under BOARD; 1 LOSING under BOARD; 2 WORN under LOSING; 3 HAULED under GAINING; 4 ANCHORED under BOARD; 5 BEACHED under ENDED; 6 STRUCK under ENDED;"
                + " 7 SUNK under ENDED; 8 CLEARED under ENDED (ENDED under BOARD).",
            "B:.../.../b#. lays(0)=4 now(9)=1 wear(2)=2 now(9)=2 haul(2)=1 now(9)=3 anchor()=1 now(9)=4 cut()=0 now(9)=1 set(4,1)=2 head(1)=1 run(1)=0 now(9)=0",
            "B:.../.../b#. lays(3)=4 wear(4)=5 lays(4)=4 wear(4)=6 lays(8)=4 wear(4)=8 lays(0)=4 anchor()=2 set(3,0)=40 set(2,9)=0 run(12)=7");
    }

    private static void holdAndLoad() {
        edge("1 WIND and TIDE by the BOOK at TEN.",
            // the shift of the next ten is not of this one
            "B:..../..../.... lays(4)=4 wind(1,2)=1 set(5,9)=5 set(0,5)=3 sail(0)=1 run(1)=1 now(7)=5 run(1)=8",
            "B:..../..../.... lays(5)=4 wind(2,2)=1 set(5,9)=5 set(0,5)=3 sail(0)=1 run(2)=1 now(0)=9 run(2)=1 now(0)=8",
            "B:../2. lays(0)=4 sail(2)=1 tide(1,1)=1 run(1)=6 lays(0)=4 run(2)=1 now(0)=2");
        edge("HOLD is 2 times the lesser of 9 and (DEPTH and TIDE), and 3; LOAD is 2 SEA and MASTS; if LOAD is greater she drags: a CELL to LEE.",
            // load 21: hold 21 in 9 and more, 19 in 8
            "B:9./.. set(0,9)=3 lays(0)=4 anchor()=2 run(9)=4 now(0)=0", "B:../.. set(0,9)=3 lays(0)=4 anchor()=2 run(9)=4 now(0)=0",
            "B:8./.. set(0,9)=3 lays(0)=4 anchor()=2 run(1)=4 now(0)=2 run(9)=4 now(0)=2",
            "B:8./.. set(0,9)=3 lays(0)=4 tide(0,1)=1 anchor()=2 run(9)=4 now(0)=0", "B:8./.. set(0,9)=3 lays(0)=4 tide(0,5)=1 anchor()=2 run(9)=4 now(0)=0",
            "B:4./.. set(0,9)=3 lays(0)=4 tide(0,5)=1 anchor()=2 run(9)=4 now(0)=0", "B:4./.. set(0,9)=3 lays(0)=4 tide(0,4)=1 anchor()=2 run(1)=4 now(0)=2",
            // load 20 of two masts, 19 of one
            "B:8./.. set(0,9)=3 lays(0)=4 axe()=2 anchor()=2 run(1)=4 now(0)=2", "B:8./.. set(0,9)=3 lays(0)=4 axe()=2 axe()=1 anchor()=2 run(9)=4 now(0)=0",
            // hold 5 in a depth of 1
            "B:1./.. set(1,1)=3 set(0,1)=3 lays(0)=4 anchor()=2 run(9)=4 now(0)=0", "B:1./.. set(1,1)=3 set(0,2)=3 lays(0)=4 anchor()=2 run(1)=4 now(0)=2",
            "B:1./.. set(1,1)=3 set(0,0)=3 lays(0)=4 anchor()=2 run(9)=4 now(0)=0",
            // to the lee of the wind as it is; what she had gone and slid stays
            OPEN + " set(1,1)=3 lays(27)=4 run(1)=1 now(6)=5 now(7)=4 anchor()=2 set(0,9)=3 run(9)=4 now(0)=27 now(6)=5 now(7)=4",
            "B:111/111/111 set(1,1)=3 wind(0,3)=1 lays(4)=7 anchor()=2 run(1)=4 now(0)=0 now(1)=7 now(4)=2 run(1)=8");
        edge("she drags: a CELL to LEE", "B:../88 set(0,9)=3 lays(2)=4 anchor()=2 run(1)=8 now(0)=-9", "B:88/#. set(0,9)=3 lays(0)=4 anchor()=2 run(1)=6 now(0)=2",
            "B:88/b. set(0,9)=3 lays(0)=4 anchor()=2 run(1)=5 now(0)=2", "B:77/2. set(0,9)=3 lays(0)=4 anchor()=2 run(1)=6 now(0)=2",
            "B:77/2. set(0,9)=3 tide(0,1)=1 lays(0)=4 anchor()=2 run(1)=4 now(0)=2",
            // sail and head are nothing to her who is anchored
            "B:.../.../... lays(0)=4 sail(3)=1 anchor()=2 run(99)=4 now(0)=0 now(6)=0 now(7)=0");
    }

    private static void goneAndSlid() {
        edge("PACE is (the lesser of SAIL and MASTS) times (APART of HEAD and WIND, plus 1), 0 if APART is below NEAR",
            "B:.../.../... set(0,0)=3 set(5,9)=5 lays(1)=4 run(1)=1 now(6)=5 sail(0)=1 run(1)=1 now(6)=5 axe()=2 axe()=1 sail(3)=0 run(1)=1 now(6)=0 now(0)=4 axe()=0 run(9)=1 now(6)=0",
            "B:......../........ set(0,0)=3 set(5,9)=5 lays(0)=4 head(2)=2 sail(3)=1 run(1)=1 now(6)=9 now(0)=0 axe()=2 run(1)=1 now(6)=5 now(0)=1 sail(2)=3 run(1)=1 now(6)=1 now(0)=2",
            // apart 2, near 2 and 3; apart 1, near 2 and 1; apart 0, near 1
            OPEN + " set(0,0)=3 set(5,9)=5 lays(24)=4 head(2)=2 run(1)=1 now(6)=3 set(4,3)=2 run(1)=1 now(6)=3 wind(0,1)=1 set(4,2)=3 run(1)=1 now(6)=3 set(4,1)=2 run(1)=0 now(6)=5"
                + " wind(0,2)=2 run(1)=1 now(6)=5 wind(0,6)=3 run(1)=1 now(0)=25 now(6)=0",
            "B:.../.../... set(0,0)=3 set(5,9)=5 lays(1)=4 set(4,3)=2 head(3)=3 run(1)=1 now(6)=4");
        edge("while GONE is 10 or more: 10 less, a CELL by HEAD",
            OPEN + " set(0,0)=3 set(5,9)=5 lays(0)=4 head(2)=2 sail(3)=1 run(1)=1 now(6)=9 now(0)=0 run(1)=1 now(6)=8 now(0)=1",
            OPEN + " set(0,0)=3 set(5,9)=5 lays(0)=4 run(1)=1 now(6)=5 now(0)=0 run(1)=1 now(6)=0 now(0)=8",
            OPEN + " set(0,0)=3 set(5,9)=5 lays(0)=4 sail(3)=1 run(1)=1 now(6)=5 now(0)=8 run(1)=1 now(6)=0 now(0)=24",
            OPEN + " set(0,0)=3 set(5,9)=5 lays(0)=4 head(3)=3 sail(3)=1 run(2)=1 now(6)=4 now(0)=18 head(4)=4 run(1)=1 now(6)=9 now(0)=26 run(1)=1 now(6)=4 now(0)=42");
        edge("SLID is more by SEA plus ((9 less GUNS) over 3, cut) plus (WATER over 25, cut)",
            OPEN + " lays(0)=4" + STANDS + "run(1)=1 now(7)=0 set(5,8)=9 run(1)=1 now(7)=0 set(5,7)=8 run(1)=1 now(7)=0 set(5,6)=7 run(1)=1 now(7)=1 set(5,5)=6 run(1)=1 now(7)=2"
                + " set(5,4)=5 run(1)=1 now(7)=3 set(5,3)=4 run(1)=1 now(7)=5 set(5,2)=3 run(1)=1 now(7)=7 set(5,1)=2 run(1)=1 now(7)=9 now(0)=0 set(5,0)=1 run(1)=1 now(7)=2 now(0)=8",
            // water of 24, 25, 49, 50, 74, 75, 99
            OPEN + " lays(0)=4" + STANDS + "set(3,0)=40 set(2,8)=0 run(3)=1 now(5)=24 now(7)=0 set(2,1)=8 run(1)=1 now(5)=25 now(7)=0 run(1)=1 now(7)=1 set(2,9)=1 run(2)=1 now(5)=44 now(7)=3"
                + " set(2,5)=9 run(1)=1 now(5)=49 now(7)=4 set(2,1)=5 run(1)=1 now(5)=50 now(7)=5 run(1)=1 now(7)=7 set(2,8)=1 run(2)=1 now(5)=67 now(7)=1 now(0)=8 set(2,7)=8 run(1)=1"
                + " now(5)=74 now(7)=3 set(2,1)=7 run(1)=1 now(5)=75 now(7)=5 run(1)=1 now(7)=8 set(2,9)=1 run(2)=1 now(5)=94 now(7)=4 now(0)=16 set(2,5)=9 run(1)=1 now(5)=99 now(7)=7"
                + " set(2,0)=5 run(1)=1 now(5)=99 now(7)=0 now(0)=24");
        edge("then while SLID is 10 or more: 10 less, a CELL to LEE",
            OPEN + " set(0,9)=3 set(5,7)=5 lays(0)=4 sail(0)=1 run(1)=1 now(7)=9 now(0)=0 set(0,0)=9 set(5,6)=7 run(1)=1 now(7)=0 now(0)=8",
            OPEN + " set(0,9)=3 set(5,6)=5 lays(0)=4 sail(0)=1 run(1)=1 now(7)=0 now(0)=8 set(5,0)=6 run(1)=1 now(7)=2 now(0)=16",
            // 20 in one ten: two cells
            OPEN + " lays(0)=4" + STANDS + "set(3,0)=40 set(2,9)=0 run(11)=1 now(5)=99 now(7)=5 now(0)=8 set(2,0)=9 set(0,9)=0 set(5,0)=9 run(1)=1 now(7)=0 now(0)=24",
            // by her head first, then to leeward, each wherever it is
            "B:..../.#../..../.... set(0,9)=3 set(5,6)=5 lays(0)=4 sail(3)=1 head(2)=2 run(1)=1 now(0)=4 run(1)=6 now(0)=5", "B:.#../..../..../.... set(0,9)=3 set(5,6)=5 lays(0)=4 sail(3)=1"
                + " head(2)=2 run(2)=1 now(0)=9");
    }

    private static void into() {
        edge("beyond the BAY: CLEARED (her CELL is none, -9, then); LAND: STRUCK; BEACH: BEACHED; DEPTH and TIDE below DRAFT: STRUCK; no more CELLS then.",
            "B:../.. lays(2)=4 sail(2)=1 run(1)=8 now(0)=-9 now(9)=8 run(1)=8 now(0)=-9 lays(3)=4 wear(4)=8 now(0)=-9",
            "B:../#b lays(0)=4 sail(2)=1 run(1)=6 now(0)=2 now(9)=6 lays(1)=4 sail(2)=1 run(1)=5 now(0)=3 now(9)=5",
            // depth and tide as much as the draft, and one less
            "B:../2. lays(0)=4 sail(2)=1 run(1)=6 now(0)=2 tide(0,1)=1 lays(0)=4 sail(2)=1 run(1)=1 now(0)=2", "B:../3. lays(0)=4 sail(2)=1 run(1)=1 now(0)=2",
            "B:99/43 set(1,9)=3 tide(0,5)=1 lays(0)=4 wear(4)=2 now(0)=2 lays(1)=4 wear(4)=6 now(0)=3",
            // a beach is a beach with any draft and tide; land is land with any tide
            "B:99/b# set(1,9)=3 lays(0)=4 wear(4)=5 tide(0,5)=1 lays(0)=4 wear(4)=5 lays(1)=4 wear(4)=6", "B:../## set(1,1)=3 tide(0,5)=1 lays(0)=4 wear(4)=6 now(13)=16",
            // where she is already the water may fall
            "B:../22 tide(0,1)=1 tide(2,0)=2 lays(0)=4 wear(4)=2 sail(0)=1 set(0,0)=3 set(5,9)=5 run(9)=1 now(0)=2",
            // ended by the first of two cells by her head; by her head, and not to leeward; by the first of two to leeward
            "B:..../####/.... set(0,0)=3 set(5,9)=5 lays(0)=4 run(1)=1 sail(3)=1 run(1)=6 now(0)=4",
            "B:.#/../.. set(0,4)=3 lays(0)=4 head(2)=2 sail(3)=1 run(1)=1 now(6)=9 now(7)=5 run(1)=6 now(0)=1",
            "B:../##/../.. lays(0)=4" + STANDS + "set(3,0)=40 set(2,9)=0 run(9)=1 now(7)=9 set(0,9)=0 set(5,0)=9 run(1)=6 now(0)=2 now(13)=0");
    }

    private static void waterAndKind() {
        edge("3 not ENDED: WATER is LEAK more, less CREW by 10 (cut), 0 at least; 100 or more: SUNK (WATER held to 100).",
            OPEN + " lays(0)=4" + STANDS + "set(2,9)=0 set(3,9)=40 run(1)=1 now(5)=9 set(3,10)=9 run(1)=1 now(5)=17 set(3,19)=10 run(1)=1 now(5)=25 set(3,20)=19 run(1)=1 now(5)=32"
                + " set(3,59)=20 run(1)=1 now(5)=36 set(3,60)=59 run(1)=1 now(5)=39",
            // 0 at least
            OPEN + " lays(0)=4" + STANDS + "set(2,7)=0 set(3,60)=40 run(3)=1 now(5)=3 set(2,0)=7 set(3,30)=60 run(1)=1 now(5)=0 set(3,60)=30 run(1)=1 now(5)=0 set(2,6)=0 run(1)=1 now(5)=0",
            OPEN + " lays(0)=4" + STANDS + "set(2,5)=0 set(3,40)=40 run(2)=1 now(5)=2 set(2,0)=5 run(1)=1 now(5)=0",
            // 99, 100, more than 100
            OPEN + " lays(0)=4" + STANDS + "anchor()=2 set(3,0)=40 set(2,9)=0 run(11)=4 now(5)=99 set(2,1)=9 run(1)=7 now(5)=100",
            OPEN + " lays(0)=4" + STANDS + "anchor()=2 set(3,0)=40 set(2,9)=0 run(12)=7 now(5)=100",
            OPEN + " lays(0)=4" + STANDS + "set(3,0)=40 set(2,5)=0 run(19)=1 now(5)=95 run(1)=7 now(5)=100 now(8)=20",
            // she who is ended leaks no more, in that ten neither
            "B:../## set(3,0)=40 set(2,9)=0 lays(0)=4 sail(2)=1 run(1)=6 now(5)=0 run(50)=6 now(5)=0");
        edge("Not ENDED, not ANCHORED: GAINING, if PACE is above 0 and APART of HEAD and WIND below 2, else LOSING.",
            OPEN + " set(0,0)=3 set(5,9)=5 set(4,1)=2 lays(36)=4 head(1)=1 run(1)=0 sail(0)=1 run(1)=1 sail(1)=0 run(1)=0 head(7)=1 run(1)=0 head(2)=2 run(1)=1 wind(0,2)=1 run(1)=1 wind(0,3)=2 run(1)=0",
            OPEN + " set(0,0)=3 set(5,9)=5 set(4,1)=2 lays(36)=4 head(1)=1 axe()=2 axe()=1 run(1)=0 axe()=0 run(1)=1",
            OPEN + " set(0,0)=3 set(5,9)=5 set(4,1)=2 lays(36)=4 head(1)=1 anchor()=2 run(1)=4 cut()=1 now(9)=1 run(1)=0 wear(1)=2 run(1)=0 haul(7)=0 run(1)=0");
        edge("4 TEN is 1 more (ENDED, too; nothing else happens then).",
            "B:../.. lays(2)=4 sail(2)=1 run(1)=8 now(8)=1 set(2,9)=0 set(3,0)=40 run(99)=8 now(8)=100 now(0)=-9 now(5)=0 now(6)=0 now(7)=4",
            "B:../## lays(0)=4 sail(3)=1 run(1)=6 now(8)=1 now(6)=5 now(7)=4 set(2,9)=0 set(3,0)=40 run(3)=6 now(8)=4 now(0)=2 now(5)=0 now(6)=5 now(7)=4",
            "B:../bb lays(0)=4 sail(3)=1 run(9)=5 now(8)=9 now(0)=2 now(6)=5 now(7)=4",
            "B:88/.. lays(0)=4 anchor()=2 set(2,9)=0 set(3,0)=40 run(12)=7 set(0,9)=3 run(9)=7 now(8)=21 now(0)=0 now(5)=100");
    }

    // ---- the acts

    private static void heads() {
        edge("HEAD: to a DIRECTION NEAR APART from the WIND or more", "B:../.. lays(0)=4 head(2)=2 !head(1)=-3 !head(0)=-3 !head(7)=-3 head(6)=2 now(1)=6 now(9)=1",
            "B:../.. set(4,3)=2 lays(0)=4 head(3)=3 !head(2)=-3 !head(6)=-3 head(5)=3", "B:../.. set(4,1)=2 lays(0)=4 head(1)=1 !head(0)=-3 head(7)=1",
            "B:../.. wind(0,7)=1 lays(0)=3 head(1)=2 !head(0)=-3 !head(6)=-3 !head(7)=-3 head(5)=2");
        edge("HEAD: how far APART from the WIND. -1; -3 (no SHIP, ENDED, ANCHORED, too near, through it).",
            "!head(8)=-1 !head(-1)=-1 !head(" + LEAST + ")=-1 !head(" + MOST + ")=-1 !head(4)=-3 B:../.. !head(4)=-3 !head(8)=-1",
            "B:../.. lays(2)=4 wear(4)=8 !head(4)=-3 !head(8)=-1", "B:../## lays(0)=4 wear(4)=6 !head(4)=-3", "B:../bb lays(0)=4 wear(4)=5 !head(4)=-3",
            "B:../.. lays(0)=4 anchor()=2 !head(4)=-3 !head(8)=-1 cut()=1 head(4)=4", "B:../.. lays(0)=4 set(2,9)=0 set(3,0)=40 anchor()=2 run(12)=7 !head(4)=-3",
            "B:../.. lays(0)=4 set(0,6)=3 set(4,1)=2 head(1)=1 !head(7)=-3 now(1)=1",
            // the kind is as it was
            "B:.../.../... lays(0)=4 wear(4)=2 head(2)=2 now(9)=2 haul(4)=1 head(2)=2 now(9)=3");
        edge("only if SEA is 5 or less", "B:../.. lays(0)=4 set(4,1)=2 head(1)=1 set(0,5)=3 head(7)=1 head(1)=1 set(0,6)=5 !head(7)=-3 set(0,9)=6 !head(7)=-3 set(0,5)=9 head(7)=1 set(0,0)=5 head(1)=1");
    }

    /** Every wind, every head, every direction, in a sea of 5 and of 6; the shorter way is gone step by step. */
    private static void headsThroughTheWind() {
        QUOTED.add("the WIND lies on the shorter way from HEAD to it, ends not counted; 4 APART: not");
        for (int wind = 0; wind < 8; wind++) {
            for (int from = 0; from < 8; from++) {
                StringBuilder calls = new StringBuilder("B:../.. set(4,1)=2 wind(0," + (from + 4) % 8 + ")=1 lays(0)=" + from + " wind(0," + wind + ")=2 image()=4");
                for (int to = 0; to < 8; to++) {
                    int off = Math.min((to - wind + 8) % 8, (wind - to + 8) % 8);
                    String turned = to == wind ? "!head(" + to + ")=-3" : "head(" + to + ")=" + off;
                    String rough = through(wind, from, to) ? "!head(" + to + ")=-3" : turned;
                    calls.append(" on()=4 set(0,5)=3 ").append(turned).append(" on()=4 set(0,6)=3 ").append(rough);
                }
                Script.check("wind " + wind + " head " + from, calls.toString());
            }
        }
    }

    private static boolean through(int wind, int from, int to) {
        int right = (to - from + 8) % 8;
        if (right == 4) return false;
        int step = right < 4 ? 1 : 7;
        for (int at = from; at != to; at = (at + step) % 8) {
            if (at == wind && at != from) return true;
        }
        return false;
    }

    private static void wearsAndHauls() {
        edge("WEAR: to any DIRECTION NEAR APART or more: HEAD is so; a CELL to LEE at once, WORN (or ENDED).",
            OPEN + " lays(0)=4 wear(2)=2 now(1)=2 now(0)=8 now(6)=0 now(7)=0 now(8)=0 !wear(1)=-3 !wear(0)=-3 !wear(7)=-3 wear(6)=2 now(0)=16 wear(6)=2 now(0)=24",
            // through the wind, too, in any sea
            OPEN + " set(0,9)=3 set(4,1)=2 lays(0)=4 wear(1)=2 wear(7)=2 wear(1)=2 now(0)=24 !wear(0)=-3", OPEN + " set(4,3)=2 lays(0)=4 wear(3)=2 wear(5)=2 !wear(2)=-3 !wear(6)=-3",
            // gone and slid stay
            OPEN + " lays(0)=4 run(1)=1 wear(4)=2 now(6)=5 now(7)=4 now(0)=8",
            "B:../.. lays(2)=4 wear(2)=8 now(0)=-9 now(1)=2 now(13)=40", "B:../#b lays(0)=4 wear(2)=6 now(0)=2 now(1)=2 now(13)=16 lays(1)=4 wear(2)=5 now(0)=3 now(13)=20",
            "B:../22 lays(0)=4 wear(2)=6 now(0)=2 tide(0,1)=1 lays(0)=4 wear(2)=2 now(0)=2");
        edge("WEAR: KIND. -1; -3 likewise (not for through it).",
            "!wear(8)=-1 !wear(-1)=-1 !wear(" + LEAST + ")=-1 !wear(" + MOST + ")=-1 !wear(4)=-3 B:../.. !wear(4)=-3 !wear(8)=-1",
            "B:../.. lays(2)=4 wear(4)=8 !wear(4)=-3 !wear(8)=-1", "B:../## lays(0)=4 wear(4)=6 !wear(4)=-3", "B:../bb lays(0)=4 wear(4)=5 !wear(4)=-3",
            "B:../.. lays(0)=4 anchor()=2 !wear(4)=-3 cut()=1 wear(4)=2", "B:../.. lays(0)=4 !wear(1)=-3 !wear(8)=-1 wear(2)=2");
        edge("HAUL: by an ANCHOR (one less): to any such DIRECTION, HAULED.",
            "B:../.. lays(0)=4 haul(2)=1 now(1)=2 now(4)=1 now(9)=3 now(0)=0 haul(6)=0 now(1)=6 now(4)=0 !haul(2)=-3 now(1)=6",
            "B:../.. set(0,9)=3 set(4,1)=2 lays(0)=4 haul(1)=1 haul(7)=0 now(1)=7", "B:../.. lays(0)=4 !haul(1)=-3 !haul(7)=-3 set(4,3)=2 !haul(2)=-3 haul(3)=1");
        edge("HAUL: ANCHORS left. -1; -3 likewise, no ANCHOR.",
            "!haul(8)=-1 !haul(-1)=-1 !haul(" + LEAST + ")=-1 !haul(" + MOST + ")=-1 !haul(4)=-3 B:../.. !haul(4)=-3 !haul(8)=-1",
            "B:../.. lays(2)=4 wear(4)=8 !haul(4)=-3", "B:../.. lays(0)=4 anchor()=2 !haul(4)=-3 now(4)=2", "B:../.. lays(0)=4 haul(4)=1 haul(4)=0 !haul(4)=-3 !haul(8)=-1",
            "B:../.. lays(0)=4 anchor()=2 cut()=1 anchor()=1 cut()=0 !haul(4)=-3");
    }

    private static void anchorsAndTheRest() {
        edge("SAIL: what it was. -4; -6 3; -3 no SHIP, ENDED.",
            "!sail(-1)=-4 !sail(4)=-6 !sail(" + LEAST + ")=-4 !sail(" + MOST + ")=-6 !sail(0)=-3 B:../.. !sail(3)=-3",
            "B:../.. lays(0)=4 !sail(-1)=-4 !sail(4)=-6 sail(0)=1 sail(3)=0 sail(1)=3 now(2)=1 now(9)=1", "B:../.. lays(0)=4 anchor()=2 sail(3)=1 now(2)=3 now(9)=4",
            "B:../.. lays(2)=4 wear(4)=8 !sail(1)=-3 !sail(-1)=-4 !sail(4)=-6", "B:../## lays(0)=4 wear(4)=6 !sail(1)=-3");
        edge("ANCHOR: ANCHORS. -3 no SHIP, ENDED, ANCHORED, none.",
            "!anchor()=-3 B:../.. !anchor()=-3 lays(0)=4 anchor()=2 now(9)=4 now(4)=2 !anchor()=-3 cut()=1 anchor()=1 cut()=0 !anchor()=-3", "B:../.. lays(2)=4 wear(4)=8 !anchor()=-3",
            "B:../bb lays(0)=4 wear(4)=5 !anchor()=-3", "B:../.. lays(0)=4 haul(2)=1 haul(2)=0 !anchor()=-3 now(9)=3", "B:.../.../... lays(0)=4 wear(2)=2 anchor()=2 now(9)=4 now(1)=2");
        edge("CUT: ANCHORS left. -3 not ANCHORED.", "!cut()=-3 B:../.. !cut()=-3 lays(0)=4 !cut()=-3 anchor()=2 cut()=1 now(9)=1 now(4)=1 !cut()=-3 now(4)=1",
            "B:../.. lays(2)=4 wear(4)=8 !cut()=-3", "B:88/#. set(0,9)=3 lays(0)=4 anchor()=2 run(1)=6 !cut()=-3", "B:../.. set(2,9)=0 set(3,0)=40 lays(0)=4 anchor()=2 run(12)=7 !cut()=-3");
        edge("AXE: MASTS left. -3 no SHIP, ENDED, none.", "!axe()=-3 B:../.. !axe()=-3 lays(0)=4 axe()=2 axe()=1 axe()=0 now(3)=0 !axe()=-3 now(3)=0",
            "B:../.. lays(2)=4 wear(4)=8 !axe()=-3 now(3)=3", "B:../.. lays(0)=4 anchor()=2 axe()=2 now(9)=4");
        edge("OVER: GUNS left. -3 no SHIP, ENDED, none.",
            "!over()=-3 B:../.. !over()=-3 lays(0)=4 over()=4 over()=3 over()=2 over()=1 over()=0 now(12)=0 !over()=-3 set(5,9)=0 over()=8 set(5,1)=8", "B:../.. lays(2)=4 wear(4)=8 !over()=-3 now(12)=5",
            // a ship laid anew has the guns that are left
            "B:../.. lays(0)=4 over()=4 lays(0)=4 now(12)=4 B:../.. lays(0)=4 now(12)=4", "B:../.. set(5,0)=5 lays(0)=4 !over()=-3 anchor()=2 set(5,1)=0 over()=0");
    }

    private static void lives() {
        edge("BEACHED 20 and 10 times TIDE, and 30 if it is not dark, hundredths (cut; all at most)",
            "B:../bb lays(0)=4 wear(4)=5 now(13)=20 set(3,59)=40 now(13)=29 set(3,1)=59 now(13)=0 set(3,2)=1 now(13)=1 set(3,60)=2 now(13)=30 set(3,0)=60 now(13)=0",
            "B:../bb tide(0,2)=1 lays(0)=4 wear(4)=5 set(3,57)=40 now(13)=39",
            "B:../bb set(6,0)=30 lays(0)=4 wear(4)=5 now(13)=8 set(3,59)=40 now(13)=11 set(3,4)=59 now(13)=0 set(3,5)=4 now(13)=1",
            "B:../bb tide(0,5)=1 lays(0)=4 wear(4)=5 now(13)=40 set(3,60)=40 now(13)=60 set(3,1)=60 now(13)=1 set(6,0)=30 lays(0)=4 wear(4)=5 now(13)=0 set(3,40)=1 now(13)=28",
            "B:../bb tide(0,1)=1 lays(0)=4 wear(4)=5 now(13)=24 tide(0,4)=2 now(13)=24 lays(0)=4 wear(4)=5 now(13)=36");
        edge("STRUCK 10 hundredths, 40 if it is not dark (TIDE, dark as she ENDED)",
            "B:../## lays(0)=4 wear(4)=6 now(13)=16 set(3,60)=40 now(13)=24 set(3,57)=60 now(13)=22 set(3,49)=57 now(13)=19 set(3,2)=49 now(13)=0 set(3,3)=2 now(13)=1 set(3,0)=3 now(13)=0",
            "B:../## set(6,0)=30 lays(0)=4 wear(4)=6 now(13)=4 set(3,9)=40 now(13)=0 set(3,10)=9 now(13)=1 set(3,19)=10 now(13)=1 set(3,60)=19 now(13)=6",
            // as she ended: not by a tide, a setting or the hour behind it
            "B:../bb lays(0)=4 wear(4)=5 tide(0,5)=1 set(6,0)=30 now(13)=20 now(11)=5 run(99)=5 now(13)=20", "B:../## lays(0)=4 wear(4)=6 run(99)=6 now(13)=16",
            "B:../bb set(6,0)=30 tide(0,5)=1 tide(1,0)=2 lays(0)=4 wear(4)=5 set(6,99)=0 run(1)=5 now(11)=0 now(13)=28",
            // in a ten: by that ten, not by the next
            "B:../bb set(6,1)=30 tide(1,3)=1 lays(0)=4 sail(2)=1 run(1)=5 now(13)=20 lays(0)=4 run(2)=5 now(13)=20", "B:../## set(6,1)=30 lays(0)=4 sail(2)=1 run(1)=6 now(13)=16 lays(0)=4 run(2)=6"
                + " now(13)=4");
        edge("SUNK none; else all.", "B:../.. set(2,9)=0 set(3,9)=40 lays(0)=4 anchor()=2 now(13)=9 run(11)=4 now(13)=9 run(1)=7 now(13)=0 set(3,60)=9 now(13)=0",
            "B:../.. set(3,60)=40 lays(2)=4 now(13)=60 wear(4)=8 now(13)=60 set(3,0)=60 now(13)=0", "B:.../.../... lays(0)=4 wear(2)=2 now(13)=40 haul(2)=1 now(13)=40");
    }

    // ---- the questions

    private static void still() {
        edge("from a CELL (of SEA no less deep than DRAFT; else -9)", "B:#b/23 still(0)=-9 still(1)=-9 still(2)=-9 still(3)=1 clears()=1 set(1,2)=3 still(2)=1 clears()=2 set(1,4)=2 still(3)=-9 clears()=0",
            // the tide does not help
            "tide(0,5)=1 B:#b/23 still(2)=-9 clears()=1");
        edge("each MOVE goes a CELL by a DIRECTION NEAR APART from the WIND or more",
            // a way out to the right, one up and right, one up
            "B:###/#../### still(4)=2 still(5)=1 set(4,3)=2 still(4)=-9 still(5)=1", "B:##./#.#/### still(4)=-9 set(4,1)=2 still(4)=2 still(2)=1", "B:#.#/#.#/### set(4,1)=2 still(4)=-9 still(1)=1",
            "B:###/#.#/#.# set(4,3)=2 still(4)=2 still(7)=1 wind(0,4)=1 still(7)=-9");
        for (int way = 0; way < 8; way++) Script.check("a way out by " + way, oneWayOut(way));
        edge("each third MOVE behind that a CELL to LEE, too",
            "B:#.#/#.#/#.#/#.#/#.#/#.#/#.#/#.# still(1)=6 still(4)=6 still(7)=5 still(10)=4 still(13)=3 still(16)=3 still(19)=2 still(22)=1 clears()=8",
            // the third leaves the bay before the cell to leeward; or it ends on land to leeward
            "B:########/#......./######## still(15)=1 still(14)=2 still(13)=3 still(12)=-9 still(9)=-9 clears()=3",
            // the sixth, too
            "B:########/#...####/##....../######## still(17)=-9 still(9)=-9 still(11)=-9 still(21)=3 still(20)=-9",
            // along the first row, and from the last cell
            "B:......../######## wind(0,1)=1 set(4,3)=2 still(0)=1 still(1)=2 still(2)=3 still(3)=3 still(4)=-9",
            "B:######.#/######.#/######.#/######.#/#######./#######./#######./#######. wind(0,3)=1 set(4,3)=2 still(63)=6",
            "B:######.#/######.#/#####.##/######.#/######.#/######.#/######.#/######.. wind(0,3)=1 set(4,3)=2 still(63)=-9",
            "B:########/########/########/########/########/########/########/#####... wind(0,4)=1 still(63)=1 still(62)=2 still(61)=3");
        edge("all into such CELLS, till she is beyond the BAY: the least MOVES; -9.",
            "B:####/#.2./#### still(5)=-9 still(6)=-9 still(7)=1 set(1,2)=3 still(5)=3 still(6)=2", "B:####/#.b./#### still(5)=-9 still(7)=1",
            "B:####/#..#/#..#/#### still(5)=-9 still(10)=-9 clears()=0", OPEN + " still(27)=4 still(35)=3 still(0)=1 still(63)=1 clears()=64");
        edge("STILL; -9. -1.", "!still(0)=-1 B:../#. !still(-1)=-1 !still(4)=-1 !still(" + LEAST + ")=-1 !still(" + MOST + ")=-1 still(2)=-9 still(3)=1");
        edge("CELLS that STILL clear: how many.", "clears()=0 B:##/## clears()=0 B:b#/1# clears()=0 B:../.. clears()=4 B:.#/#. clears()=2");
    }

    /** From the middle of a bay of three by three only one cell, and by it only beyond the bay. */
    private static String oneWayOut(int way) {
        int open = ROUND[way];
        StringBuilder bay = new StringBuilder("B:###/#.#/###");
        bay.setCharAt(2 + open + open / 3, '.');
        return bay + " set(4,3)=2 wind(0," + (way + 4) % 8 + ")=1 still(4)=2 still(" + open + ")=1 clears()=2 wind(0," + way + ")=2 set(4,1)=3 still(4)=-9";
    }

    private static void lineAndLighter() {
        String slides = " set(0,1)=3 set(5,9)=5 ";
        edge("LINE: of SAIL 1 .. 3 the least with which (in mind, all else as now) she is CLEARED within 60 TENS; -9.",
            "B:..../#### lays(3)=4 head(2)=2 line()=2 lays(2)=4 head(2)=2 line()=3 lays(1)=4 head(2)=2 line()=-9 now(2)=1 now(0)=1 now(8)=0",
            "B:..../.... lays(3)=4 head(2)=2 sail(0)=1 line()=1 sail(3)=0 line()=1 now(2)=3",
            // six cells to slide at a cell each ten tens: cleared by the sixtieth; seven are too many
            "B:../../../../../.." + slides + "lays(0)=4 head(2)=2 set(4,3)=2 line()=1 run(59)=1 run(1)=8 line()=1", "B:../../../../../../.." + slides + "lays(0)=4 head(2)=2 set(4,3)=2 line()=-9 run(1)=1"
                + " line()=-9 run(8)=1 line()=-9 run(1)=1 line()=1",
            // a shift in the sixtieth ten, and in the one behind it
            "B:../.. set(0,0)=3 set(5,9)=5 lays(2)=4 wind(0,4)=1 wind(59,0)=2 line()=2 wind(59,4)=3 wind(60,0)=4 line()=-9",
            "B:../## lays(0)=4 wear(4)=6 line()=-9", "B:../.. lays(2)=4 wear(4)=8 line()=1", "B:../.. lays(0)=4 anchor()=2 line()=-9 cut()=1 line()=1",
            // no sail is thought that her masts do not bear
            "B:..../#### lays(3)=4 head(2)=2 axe()=2 line()=2 axe()=1 line()=-9");
        edge("LINE; -9. -3 no SHIP.", "!line()=-3 B:../.. !line()=-3 lays(0)=4 line()=1");
        edge("LIGHTER: TENS till ENDED (60 at most) with no GUNS, less those as now.",
            // a cell each ten tens as now, four of ten without guns
            "B:../../../../../.." + slides + "lays(0)=4 head(2)=2 set(4,3)=2 lighter()=-45 now(12)=9 set(5,0)=9 lighter()=0",
            "B:../../../../../../../.." + slides + "lays(0)=4 head(2)=2 set(4,3)=2 lighter()=-40 anchor()=2 lighter()=0", "B:../.. lays(2)=4 wear(4)=8 lighter()=0",
            "B:../.. set(0,0)=3 set(5,7)=5 lays(0)=4 sail(0)=1 lighter()=-53", "B:../../../../../../../.. set(0,0)=3 set(5,9)=5 lays(0)=4 sail(0)=1 lighter()=-33");
        edge("LIGHTER. Refused as told: -3 no SHIP.", "!lighter()=1000000003 B:../.. !lighter()=1000000003 count(13)=2 lays(0)=4 lighter()=-1 count(11)=0");
    }

    private static void holdsAndBeachBest() {
        edge("HOLDS: the greatest SEA with which she would hold at ANCHOR in a CELL with told MASTS and TIDE; -9.",
            "B:1234/5678/9.#b holds(0,0,0)=2 holds(0,1,0)=2 holds(0,2,0)=1 holds(0,3,0)=1 holds(1,0,0)=3 holds(1,3,0)=2 holds(7,0,0)=9 holds(7,1,0)=9 holds(7,2,0)=8 holds(7,3,0)=8 holds(8,3,0)=9"
                + " holds(9,3,5)=9 holds(9,0,0)=9 holds(7,3,1)=9 holds(7,3,5)=9 holds(3,3,5)=9 holds(2,3,5)=8 holds(0,3,5)=6",
            // so she holds, and with a sea more she drags
            "B:4./.. lays(0)=4 anchor()=2 holds(0,3,0)=4 set(0,4)=3 run(1)=4 now(0)=0 set(0,5)=4 run(1)=4 now(0)=2");
        edge("HOLDS; -9. -1; -4; -6 (3; 5); -3 no SEA.",
            "!holds(0,0,0)=-1 B:#b/1. !holds(4,0,0)=-1 !holds(-1,0,0)=-1 !holds(" + LEAST + ",-1,9)=-1 !holds(" + MOST + ",0,0)=-1 !holds(0,-1,0)=-4 !holds(0,0,-1)=-4 !holds(0,4,-1)=-4 !holds(0,-1,6)=-4",
            "B:#b/1. !holds(0,4,0)=-6 !holds(0,0,6)=-6 !holds(2,4,0)=-6 !holds(2,0,6)=-6 !holds(0,3,5)=-3 !holds(1,0,0)=-3 holds(2,3,5)=6 !holds(2," + LEAST + ",0)=-4 !holds(2,0," + MOST + ")=-6"
                + " !holds(2," + MOST + "," + LEAST + ")=-4",
            // a shoal below her draft is a sea, too
            "B:#b/1. set(1,9)=3 holds(2,0,0)=2");
        edge("BEACH BEST: of TENS 0 .. 30 that with most LIVES of one BEACHED then (TIDE by the BOOK, dark), of several the least; -9 the BAY has no BEACH.",
            "B:b./.. beachBest()=0 tide(31,5)=1 beachBest()=0 tide(30,5)=2 beachBest()=30 tide(29,5)=3 beachBest()=29 set(6,31)=30 beachBest()=29 tide(0,5)=4 beachBest()=0",
            "B:b./.. tide(7,2)=1 beachBest()=7 tide(8,2)=2 beachBest()=7 tide(20,3)=3 beachBest()=20 set(6,20)=30 beachBest()=7 set(6,7)=20 beachBest()=0 set(6,0)=7 beachBest()=20",
            // no more lives than all; of none none is best
            "B:b./.. set(3,1)=40 tide(5,4)=1 beachBest()=0 tide(6,5)=2 beachBest()=6 set(3,0)=1 beachBest()=0", "B:../.. beachBest()=-9 B:#1/#. beachBest()=-9", "B:../.b beachBest()=0");
        edge("BEACH BEST; -9.", "beachBest()=-9");
    }

    private static void plan() {
        edge("PLAN: of rows of ACTS at the next n TENS (0 .. 4; before each: 0 none, 1 WEAR to HEAD 2 more, 2 WEAR to HEAD 2 less, 3 ANCHOR, 4 SAIL 1 more",
            "B:..../#### lays(1)=4 head(2)=2 plan(0,-1)=16 plan(1,-1)=40 plan(1,0)=3 plan(4,-1)=40 plan(4,0)=0 plan(4,1)=0 plan(4,2)=3 plan(4,3)=0 now(0)=1 now(8)=0 now(9)=1",
            // a sail more, two sails more
            "B:5555/#### set(0,6)=3 lays(3)=4 head(2)=2 plan(1,-1)=40 plan(1,0)=4", "B:..../#### lays(2)=4 haul(2)=1 haul(2)=0 plan(1,-1)=16 plan(2,-1)=40 plan(2,0)=4 plan(2,1)=4",
            // head 6 and 2 more is 0; head 0 and 2 less is 6; head 4 and 2 more is 6
            "B:#11/#11/### set(1,1)=3 wind(0,2)=1 lays(2)=6 sail(3)=1 plan(1,-1)=40 plan(1,0)=1", "B:###/11#/11# set(1,1)=3 wind(0,4)=1 lays(6)=0 sail(3)=1 plan(1,-1)=40 plan(1,0)=2",
            "B:####/111#/111# set(1,1)=3 wind(0,4)=1 lays(9)=0 sail(3)=1 plan(1,-1)=40 plan(1,0)=2",
            "B:111/111/### set(1,1)=3 lays(1)=4 sail(3)=1 plan(1,-1)=40 plan(1,0)=1");
        edge("those that can not be are none), then none till 20 TENS are behind: the greatest LIVES, of several the first: LIVES; the i-th ACT.",
            // no anchor to go by; anchored, no turning; turning too near the wind; ended
            "B:..../#### lays(1)=4 haul(2)=1 haul(2)=0 plan(1,-1)=16 plan(1,0)=0 plan(4,-1)=16 plan(4,0)=0 plan(4,3)=0",
            "B:111/111/### set(1,1)=3 lays(1)=4 sail(3)=1 anchor()=2 plan(1,-1)=16 plan(1,0)=0 plan(4,-1)=16 plan(4,3)=0",
            "B:#.#/#.#/### set(4,3)=2 wind(0,2)=1 wind(0,4)=2 lays(4)=0 head(1)=3 plan(1,-1)=40", "B:../## lays(0)=4 wear(4)=6 plan(4,-1)=16 plan(4,0)=0 plan(4,1)=0 plan(4,2)=0 plan(4,3)=0",
            // twenty tens and no more, however many of them are with acts
            "B:../../../## set(0,1)=3 set(5,9)=5 lays(0)=4 haul(2)=1 haul(2)=0 axe()=2 axe()=1 axe()=0 run(9)=1 plan(0,-1)=40 plan(1,-1)=40 plan(4,-1)=40 run(1)=1 plan(0,-1)=16 plan(1,-1)=16"
                + " plan(4,-1)=16",
            // of several the first: in the order of the first act, then of the second
            "B:../.. lays(0)=4 plan(4,-1)=40 plan(4,0)=0 plan(4,1)=0 plan(4,2)=0 plan(4,3)=0", "B:5555/#### set(0,6)=3 lays(3)=4 head(2)=2 plan(2,0)=4 plan(2,1)=0 plan(3,0)=4 plan(3,1)=0 plan(3,2)=0"
                + " plan(4,0)=4 plan(4,1)=0 plan(4,2)=0 plan(4,3)=0");
        edge("PLAN: LIVES (i -1), the i-th ACT (i below n; -9). -4; -6 4; -3 no SHIP.",
            "!plan(-1,0)=-4 !plan(0,-2)=-4 !plan(5,-2)=-4 !plan(-1,9)=-4 !plan(5,0)=-6 !plan(4,0)=-3 !plan(0,-1)=-3 !plan(0,9)=-3 !plan(" + LEAST + "," + MOST + ")=-4 !plan(" + MOST + ",0)=-6",
            "B:../.. !plan(0,-1)=-3 lays(0)=4 plan(0,-1)=40 plan(0,0)=-9 plan(1,0)=0 plan(1,1)=-9 plan(4,3)=0 plan(4,4)=-9 plan(4," + MOST + ")=-9 !plan(5,4)=-6 !plan(4,-2)=-4 !plan(4," + LEAST + ")=-4");
    }

    private static void stood() {
        edge("STOOD: LAID in a CELL (in mind; SAIL as now) with told HEAD: the latest TEN (0 .. 40) at which she may begin so as to be CLEARED within 60 TENS; -9.",
            // she ends in the third ten, by the wind of it
            "B:..../#### lays(0)=4 stood(3,2)=-9 wind(42,4)=1 stood(3,2)=40", "B:..../#### lays(0)=4 wind(43,4)=1 stood(3,2)=-9", "B:..../#### lays(0)=4 wind(0,4)=1 wind(42,0)=2 stood(3,2)=39",
            "B:..../#### lays(0)=4 wind(0,4)=1 wind(3,0)=2 stood(3,2)=0", "B:..../#### lays(0)=4 wind(0,4)=1 wind(2,0)=2 stood(3,2)=-9", "B:..../#### lays(0)=4 wind(43,0)=1 wind(0,4)=2 stood(3,2)=40",
            // cleared by the sixtieth ten from where she begins
            "B:../../../../../.. set(0,1)=3 set(5,9)=5 lays(0)=4 stood(0,0)=40", "B:../../../../../../.. set(0,1)=3 set(5,9)=5 lays(0)=4 stood(0,0)=-9 stood(2,0)=40",
            "B:../.. lays(0)=4" + STANDS + "sail(3)=0 wind(99,4)=1 stood(0,0)=40", "B:../.. lays(0)=4" + STANDS + "sail(3)=0 wind(100,4)=1 stood(0,0)=-9",
            // sail as now, all else as laid
            "B:..../#### lays(0)=4 stood(3,2)=-9 sail(2)=1 axe()=2 axe()=1 axe()=0 stood(3,2)=40 anchor()=2 stood(3,2)=40", "B:../.. lays(2)=4 wear(4)=8 stood(0,4)=40 now(0)=-9 now(9)=8");
        edge("STOOD; -9. -1 either; -3 it is not such a CELL, no SHIP.",
            "!stood(0,0)=-1 B:#b/2. !stood(4,0)=-1 !stood(-1,0)=-1 !stood(3,8)=-1 !stood(3,-1)=-1 !stood(0,8)=-1 !stood(" + LEAST + ",0)=-1 !stood(" + MOST + ",0)=-1 !stood(3," + LEAST + ")=-1",
            "B:#b/2. !stood(3,0)=-3 !stood(0,0)=-3 lays(3)=4 !stood(0,0)=-3 !stood(1,0)=-3 !stood(2,0)=-3 !stood(3,8)=-1 stood(3,0)=40 stood(3,7)=40", "tide(0,5)=1 B:#b/2. lays(3)=4 !stood(2,0)=-3 set(1,2)=3"
                + " stood(2,0)=40");
    }

    private static void worth() {
        edge("WORTH of a shift: LIVES 30 TENS on, if from n TENS on (0 .. 29) the WIND is a told one, less those as now.",
            // three cells to slide at a cell each ten tens: she strikes in the thirtieth ten
            "B:../../../## set(0,1)=3 set(5,9)=5 lays(0)=4 sail(0)=1 worth(29,4)=24 worth(0,4)=24 worth(29,0)=0 now(0)=0 now(8)=0", "B:../../../../## set(0,1)=3 set(5,9)=5 lays(0)=4 sail(0)=1 worth(0,4)=0"
                + " run(9)=1 worth(0,4)=0 run(1)=1 worth(0,4)=36",
            // her head in the wind she stands still till it shifts: she strikes in the second ten of the shift
            "B:../## set(0,0)=3 set(5,9)=5 lays(0)=4 wind(0,4)=1 worth(28,0)=-24 worth(29,0)=0 wind(28,0)=2 worth(0,4)=24 worth(29,4)=24 wind(28,4)=3 wind(29,0)=4 worth(0,4)=0",
            // from n tens on from now
            "B:..../#### lays(1)=4 head(2)=2 worth(0,4)=24 worth(2,4)=24 worth(3,4)=0 worth(29,4)=0 worth(0,0)=0", "B:..../#### lays(1)=4 head(2)=2 run(2)=1 worth(0,4)=24 worth(1,4)=0",
            // it may cost, too
            "B:..../#### lays(1)=4 wind(0,4)=1 head(2)=2 worth(0,0)=-24 worth(2,0)=-24 worth(3,0)=0", "B:../## lays(0)=4 wear(4)=6 worth(0,4)=0");
        edge("WORTH of a shift. Refused as told: -1; -4; -6 29; -3 no SHIP.",
            "!worth(0,8)=1000000001 !worth(0,-1)=1000000001 !worth(-1,8)=1000000001 !worth(30,-1)=1000000001 !worth(-1,0)=1000000004 !worth(30,0)=1000000006 !worth(29,0)=1000000003 !worth(0,7)=1000000003",
            "B:../.. !worth(0,0)=1000000003 lays(0)=4 !worth(" + LEAST + "," + MOST + ")=1000000001 !worth(" + LEAST + ",0)=1000000004 !worth(" + MOST + ",0)=1000000006 !worth(30,7)=1000000006 worth(29,7)=0");
    }

    private static void light() {
        edge("LIGHT: the CELL of LAND from which most SEA CELLS are seen (in the 8 DIRECTIONS, till LAND), of several the least; -9.",
            // the eight ways, to the ends of the bay and not round them
            "B:......../......../......../...#..../......../......../......../.......# light()=27", "B:#......#/......../#......# light()=0", "B:.#/.#/.#/.#/.#/.#/.#/## light()=14",
            "B:#......./######## light()=0", "B:#......#/########/.......# light()=23",
            // land hides, a beach does not and is no sea
            "B:#.#/.../#b. light()=0", "B:#b../#### light()=0", "B:#bbb/####/####/###. light()=10", "B:#..#../###### light()=3", "B:b#/.# light()=1",
            // of several the least; land that sees nothing
            "B:..../.#../..#./.... light()=5", "B:##/## light()=0", "B:b#/## light()=1", "B:../.. light()=-9", "B:bb/.. light()=-9");
        edge("LIGHT; -9.", "light()=-9");
    }

    private static void night() {
        edge("n TENS (1 .. 99) in mind: ahead of each, if a DRAW below 10 is 0, a DRAW below 8 is added to all WINDS from then on (gone round): LIVES then.",
            // she ends in the third ten, by the wind of it: 23 adds 4 ahead of the first, 2 of the second, 33 of the third, 130 of the fourth
            "B:..../#### lays(1)=4 head(2)=2 night(1,0)=40 night(2,0)=40 night(3,0)=16 night(99,0)=16 night(3,23)=40 night(3,2)=40 night(3,33)=40 night(3,130)=16 night(99,130)=16 now(0)=1 now(8)=0 now(10)=0",
            // a wind of 4 and 4 is 0, of the book's later shifts, too
            "B:####/.... wind(0,4)=1 lays(5)=0 head(2)=2 night(3,0)=16 night(3,23)=40", "B:..../#### wind(1,4)=1 lays(1)=4 head(2)=2 night(3,0)=40 night(3,23)=16",
            "B:####/.... wind(0,4)=1 wind(2,3)=2 wind(2,4)=3 lays(5)=0 head(2)=2 night(3,0)=16 night(3,23)=40",
            // a wind thought in one question is not thought in the next
            "B:..../#### lays(1)=4 head(2)=2 night(3,23)=40 stood(3,2)=-9 night(3,0)=16 night(1,23)=40 worth(0,4)=24 worth(29,0)=0 lighter()=-1 line()=-9 plan(0,-1)=16",
            // 96 adds 0; 57 adds 2 and she slides to the left
            "B:..../#### lays(1)=4 head(2)=2 night(3,96)=16", "B:.b../#### lays(0)=4 head(2)=2 night(4,57)=40",
            // 99 tens: a cell each ten tens, nine cells
            "B:../../../../## set(0,1)=3 set(5,9)=5 set(6,99)=30 lays(0)=4 sail(0)=1 axe()=2 axe()=1 axe()=0 run(99)=6");
        edge("A DRAW below m: z becomes z times 1664525 and 1013904223 (an int); (z without its sign's bit by 256, cut) modulo m.", drawn(0), drawn(1), drawn(-1), drawn(23), drawn(57), drawn(106), drawn(LEAST),
            drawn(LEAST + 1), drawn(MOST), drawn(MOST - 1), drawn(123456789), drawn(-123456789), drawn(-987654321));
        edge("NIGHT. -4; -6 99; -3 no SHIP.", "!night(0,0)=-4 !night(-1,0)=-4 !night(100,0)=-6 !night(1,0)=-3 !night(99,0)=-3 !night(" + LEAST + ",0)=-4 !night(" + MOST + ",0)=-6",
            "B:../.. !night(1,0)=-3 lays(0)=4 !night(0,0)=-4 !night(100,0)=-6 night(1," + LEAST + ")=40 night(99," + MOST + ")=40");
    }

    /** The lives behind each number of tens, sailed by hand: she only slides, a cell in each ten, from the middle of a bay of five by five with land below and a beach on the left. */
    private static String drawn(int z) {
        String bay = ".....#/b....#/b....#/b....#/b....#/######";
        String[] rows = bay.split("/");
        int[] down = {-1, -1, 0, 1, 1, 1, 0, -1};
        int[] across = {0, 1, 1, 1, 0, -1, -1, -1};
        StringBuilder calls = new StringBuilder("B:" + bay + " set(0,9)=3 set(5,6)=5 lays(14)=4 sail(0)=1");
        for (int n = 1; n <= 12; n++) {
            long seed = z;
            int wind = 0;
            int row = 2;
            int column = 2;
            int lives = -1;
            for (int t = 0; t < n && lives < 0; t++) {
                seed = wrapped(seed * 1664525L + 1013904223L);
                if (Math.floorMod(seed, 1L << 31) / 256 % 10 == 0) {
                    seed = wrapped(seed * 1664525L + 1013904223L);
                    wind = (int) ((wind + Math.floorMod(seed, 1L << 31) / 256 % 8) % 8);
                }
                row += down[(wind + 4) % 8];
                column += across[(wind + 4) % 8];
                if (row < 0 || column < 0 || row > 5 || column > 5) lives = 40;
                else if (rows[row].charAt(column) != '.') lives = rows[row].charAt(column) == '#' ? 16 : 20;
            }
            calls.append(" night(").append(n).append(',').append(z).append(")=").append(lives < 0 ? 40 : lives);
        }
        return calls.toString();
    }

    private static long wrapped(long v) {
        long low = Math.floorMod(v, 1L << 32);
        return low >= 1L << 31 ? low - (1L << 32) : low;
    }

    private static void logs() {
        edge("A LOG: CELLS (0 .. 99; 12 at most), where she is behind each next TEN: JUDGED in mind: the first that is not so (99: she has no CELL); -9.",
            OPEN + " lays(0)=4 sail(2)=1 log(8)=1 log(16)=2 log(32)=3 judge()=-9 now(0)=0 now(8)=0 log(8)=1 log(16)=2 log(24)=3 judge()=2 log(8)=1 log(16)=2 judge()=-9",
            OPEN + " lays(0)=4 sail(2)=1 log(0)=1 judge()=0 log(8)=1 log(8)=2 judge()=1 log(9)=1 log(9)=2 judge()=0",
            // 99 of one that is cleared, and of one that is not
            "B:../.. lays(2)=4 sail(2)=1 log(99)=1 log(99)=2 judge()=-9 log(2)=1 judge()=0 log(4)=1 judge()=0", "B:../.. lays(2)=4 wear(4)=8 log(99)=1 judge()=-9 log(98)=1 judge()=0 log(0)=1 judge()=0",
            "B:../.. lays(0)=4 anchor()=2 log(99)=1 judge()=0 log(0)=1 log(99)=2 judge()=1", "B:../## lays(0)=4 sail(2)=1 log(2)=1 log(2)=2 log(99)=3 judge()=2",
            // the twelfth is looked at, too
            "B:../.. lays(0)=4 anchor()=2 " + twelve("") + "judge()=-9 " + twelve("1") + "judge()=11");
        edge("A CELL more of the LOG (0 .. 99): how many. -4; -6 (99; 12, too).",
            "log(0)=1 log(99)=2 !log(-1)=-4 !log(100)=-6 !log(" + LEAST + ")=-4 !log(" + MOST + ")=-6 count(4)=2", twelve("") + "!log(0)=-6 !log(-1)=-4 !log(100)=-6 count(4)=12");
        edge("JUDGED; -9 (the LOG has none then). -3 no SHIP (it stays).",
            "B:../.. lays(0)=4 judge()=-9 anchor()=2 log(0)=1 judge()=-9 count(4)=0 log(1)=1 log(1)=2 judge()=0 count(4)=0 judge()=-9", "log(1)=1 log(2)=2 !judge()=-3 count(4)=2 B:../.. !judge()=-3 count(4)=2 lays(0)=4"
                + " judge()=0 count(4)=0", twelve("") + "B:../.. lays(0)=4 anchor()=2 judge()=-9 log(0)=1");
    }

    private static String twelve(String last) {
        StringBuilder calls = new StringBuilder();
        for (int i = 1; i <= 11; i++) calls.append("log(0)=").append(i).append(' ');
        return calls + "log(" + (last.isEmpty() ? "0" : last) + ")=12 ";
    }

    private static void images() {
        edge("THE IMAGE: the BAY, SETTINGS, BOOK, NOW; ON from it all is as then.",
            "image()=0 B:../.. lays(0)=4 on()=0 count(0)=0 count(1)=0 count(6)=0 !cell(0)=-1 !now(0)=-3",
            "B:#b/1. wind(0,3)=1 tide(0,2)=1 set(0,1)=3 lays(3)=7 sail(2)=1 image()=4 B:.../.../... wind(0,4)=2 tide(0,3)=2 set(0,2)=1 lays(4)=0 on()=4 cell(0)=0 cell(1)=30 cell(2)=1 cell(3)=20 !cell(4)=-1"
                + " count(2)=1 count(3)=1 now(0)=3 now(1)=7 now(2)=2 now(10)=3 now(11)=2 set(0,3)=1 on()=4 set(0,3)=1",
            "set(0,1)=3 set(1,2)=3 set(2,4)=0 set(3,50)=40 set(4,1)=2 set(5,8)=5 set(6,70)=30 image()=0 set(0,9)=1 set(1,9)=2 set(2,9)=4 set(3,9)=50 set(4,3)=1 set(5,9)=8 set(6,9)=70 on()=0"
                + " set(0,0)=1 set(1,1)=2 set(2,0)=4 set(3,0)=50 set(4,2)=1 set(5,0)=8 set(6,0)=70",
            OPEN + " set(3,0)=40 set(2,9)=0 lays(0)=4 sail(2)=1 head(3)=3 axe()=2 haul(2)=1 run(3)=1 image()=64 sail(3)=2 head(6)=2 axe()=1 haul(4)=0 run(9)=8 set(3,7)=0 on()=64"
                + " now(0)=9 now(1)=2 now(2)=2 now(3)=2 now(4)=1 now(5)=27 now(6)=8 now(7)=2 now(8)=3 now(9)=1 now(10)=0 now(11)=0 now(12)=5 now(13)=0",
            "B:../## set(6,0)=30 lays(0)=4 wear(4)=6 image()=4 lays(0)=4 set(6,9)=0 on()=4 now(9)=6 now(13)=4 plan(0,-1)=4 night(9,1)=4 worth(0,4)=0",
            // she who had ended has; what was told and refused since then stays told and refused
            "B:../bb tide(0,5)=1 lays(0)=4 wear(4)=5 image()=4 tide(0,0)=2 lays(0)=4 on()=4 now(9)=5 now(13)=40 now(8)=0", "image()=0 log(3)=1 L:.. !now(99)=-2 on()=0 count(4)=1 count(5)=2 count(12)=1",
            // a full book, and one that is not
            eight("wind") + "image()=0 !wind(0,1)=-6 on()=0 !wind(0,1)=-6", "image()=0 " + eight("wind") + eight("tide") + "on()=0 count(2)=0 count(3)=0 wind(0,1)=1 tide(0,1)=1");
        edge("THE IMAGE is taken: how many CELLS.", "image()=0 " + OPEN + " image()=64 B:../.. on()=64 B:../.. image()=4 on()=4");
        edge("ON from it: how many CELLS. -3 there is none.", "!on()=-3 B:../.. !on()=-3 image()=4 on()=4 on()=4");
    }

    // ---- refusals and counts

    private static void refusals() {
        edge("the first that fits in the order in which it tells them; nothing changes but how many there were",
            "!set(9,-1)=-2 !wind(-1,9)=-1 !tide(1000,-1)=-4 !run(0)=-4 !head(9)=-1 !wear(9)=-1 !haul(9)=-1 !sail(9)=-6 !now(99)=-2 !holds(9,-1,9)=-1 !plan(9,-9)=-4 !stood(9,9)=-1 !worth(99,9)=1000000001"
                + " !night(100,0)=-6 !log(-1)=-4 count(11)=7 count(12)=2 count(13)=0 count(14)=4 count(15)=0 count(16)=2",
            // of a ship in the midst of all
            "B:..#/.1./b.. wind(0,1)=1 wind(3,2)=2 tide(0,1)=1 set(4,1)=2 lays(0)=5 haul(4)=1 run(1)=1 log(3)=1 L:../ image()=9 sail(3)=1 !letter(256)=-6 !cell(9)=-1 !set(1,0)=-4 !wind(0,8)=-1 !tide(0,6)=-6"
                + " !lays(4)=-3 !now(14)=-2 !run(0)=-4 !head(1)=-3 !wear(1)=-3 !haul(1)=-3 !sail(4)=-6 !cut()=-3 !still(9)=-1 !holds(2,0,0)=-3 !plan(0,-2)=-4 !stood(4,0)=-3 !worth(30,0)=1000000006"
                + " !night(0,0)=-4 !log(100)=-6");
        edge("-1 NOBODY: no such CELL, DIRECTION. -2 OTHER: what. -3 STATE: it is not as it must be. -4 BELOW: a number below the least. -6 ROOM: a number above the greatest, no room.",
            "!cell(0)=-1 !wind(0,8)=-1 !set(7,0)=-2 !now(14)=-2 !cut()=-3 !set(1,0)=-4 !set(1,10)=-6 " + eight("tide") + "!tide(0,0)=-6 count(11)=2 count(12)=2 count(13)=1 count(14)=1 count(15)=0 count(16)=2");
        edge("Of lighter(), worth() REFUSALS are 1000000000 less them (-1 as 1000000001).",
            "!lighter()=1000000003 !worth(0,8)=1000000001 !worth(-1,0)=1000000004 !worth(30,0)=1000000006 !worth(0,0)=1000000003 count(11)=1 count(13)=2 count(14)=1 count(16)=1",
            // an answer of -1 or -24 is none
            "B:..../#### lays(1)=4 head(2)=2 lighter()=-1 wind(0,4)=1 worth(0,0)=-24 count(11)=0");
    }

    private static void counts() {
        edge("0 ROWS, 1 COLUMNS, 2 SHIFTS, 3 TIDES, 4 in the LOG, 5 letters, 6 1 there is a SHIP, 11 .. 16 REFUSALS -1 .. -6. -9 for another what.",
            "count(-1)=-9 count(7)=-9 count(8)=-9 count(9)=-9 count(10)=-9 count(17)=-9 count(" + LEAST + ")=-9 count(" + MOST + ")=-9 count(11)=0 count(12)=0 count(16)=0",
            "B:../../.. wind(0,0)=1 tide(0,0)=1 tide(0,0)=2 log(0)=1 log(0)=2 log(0)=3 L:.... count(0)=3 count(1)=2 count(2)=1 count(3)=2 count(4)=3 count(5)=4 count(6)=0 lays(0)=4 count(6)=1 run(9)=8 count(6)=1",
            "!cell(0)=-1 count(11)=1 !now(14)=-2 count(12)=1 !now(0)=-3 count(13)=1 !run(0)=-4 count(14)=1 count(15)=0 !run(100)=-6 count(16)=1 count(11)=1");
    }

    private static void manyCalls() {
        StringBuilder calls = new StringBuilder(OPEN + " lays(0)=4" + STANDS + "set(6,0)=30 tide(0,5)=1 head(2)=2 sail(3)=0 haul(3)=1");
        int told = 72 + 9;
        for (; told < 510; told += 3) calls.append(" plan(4,3)=0 clears()=64 stood(0,3)=40");
        for (; told < 512; told++) calls.append(" run(1)=1");
        edge("An object is used for at most 512 calls after it has been made", calls.toString());
    }

    // ---- nothing is left out

    /** The words and signs by which a sentence names a boundary. */
    private static final Pattern BOUNDARY = Pattern.compile("at most|at least|or more|or less|no less|greater|least|below|above|lesser|latest|within|behind|till|while|only|first"
        + "|cut\\b|gone round|ends not|not counted|no room|none|too\\b|held|in mind|\\.\\. ?\\d|-\\d");

    private static void everyBoundaryIsQuoted(Path path) throws IOException {
        if (!Files.isReadable(path)) {
            System.out.println("edges: no " + path + " to look into");
            return;
        }
        String text = Files.readString(path).replaceAll("(?m)^#+ .*$", "");
        int start = text.indexOf("==== I.");
        int end = text.indexOf("How the state is held inside");
        boolean[] quoted = new boolean[text.length()];
        for (String q : QUOTED) {
            int at = text.indexOf(q);
            if (at < 0) Script.fail("edges", "the document has no such sentence: " + q);
            for (; at >= 0; at = text.indexOf(q, at + 1)) Arrays.fill(quoted, at, at + q.length(), true);
        }
        int from = start;
        for (int i = start; i < end; i++) {
            boolean endsHere = text.charAt(i) == '\n' || (";:.".indexOf(text.charAt(i)) >= 0 && i + 1 < end && Character.isWhitespace(text.charAt(i + 1)));
            if (!endsHere) continue;
            String part = text.substring(from, i + 1);
            boolean some = false;
            for (int c = from; c <= i; c++) some |= quoted[c];
            if (!some && !part.endsWith("`:") && BOUNDARY.matcher(part).find()) Script.fail("edges", "no test has the sentence:" + part);
            from = i + 1;
        }
    }
}
