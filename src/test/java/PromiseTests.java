/** What the document promises, promise by promise, as short scripts (see Script) on new objects. */
public final class PromiseTests {
    private static final String OPEN = "......../......../......../......../......../......../......../........";

    public static void main(String[] args) {
        newObject();
        letters();
        bays();
        cells();
        settings();
        books();
        laying();
        nows();
        tensOnTheWay();
        tensInto();
        tensOfWater();
        tensAtAnchor();
        heads();
        wears();
        hauls();
        sailsAnchorsAxesGuns();
        livesOfTheEnded();
        stills();
        lines();
        lighters();
        holding();
        beaches();
        plans();
        stoods();
        worths();
        lights();
        nights();
        logs();
        images();
        counts();
        Script.end("promises");
    }

    private static void newObject() {
        check("1", "count(0)=0 count(1)=0 count(2)=0 count(3)=0 count(4)=0 count(5)=0 count(6)=0");
        check("1", "count(11)=0 count(12)=0 count(13)=0 count(14)=0 count(15)=0 count(16)=0 cell(0)=-1 now(0)=-3");
    }

    private static void letters() {
        check("2", "letter(0)=1 letter(255)=2 letter(-1)=-4 letter(256)=-6 letter(-2147483648)=-4 letter(2147483647)=-6"
            + " count(5)=2 count(14)=2 count(16)=2");
        StringBuilder full = new StringBuilder();
        for (int i = 1; i <= 80; i++) full.append("letter(46)=").append(i).append(' ');
        check("2", full + "letter(46)=-6 letter(-1)=-4 letter(300)=-6 count(5)=80 bay()=-1008 letter(46)=1");
    }

    private static void bays() {
        fault("", 0);
        fault("x", 0);
        fault("/", 0);
        fault("0", 0);
        fault(".", 1);
        fault("..", 2);
        fault("./", 1);
        fault("../", 3);
        fault("../.", 4);
        fault(".././", 4);
        fault("../...", 5);
        fault("..//", 3);
        fault("../../", 6);
        fault("../..0", 5);
        fault("..B", 2);
        fault("........./..", 8);
        fault(".......#b", 8);
        fault("../../../../../../../../", 23);
        fault("../../../../../../../..a", 23);
        check("3", "B:../.. count(0)=2 count(1)=2 B:../../../../../../../.. count(0)=8 count(1)=2 B:" + OPEN + " count(0)=8 count(1)=8");
        check("3", "B:#b1/9.. lays(3)=4 count(6)=1 L:#b/ bay()=-1003 count(5)=0 count(6)=1 count(0)=2 count(1)=3 cell(2)=1 now(0)=3"
            + " count(11)=0 count(13)=0 count(16)=0");
        check("3", "B:../.. wind(0,4)=1 wind(1,6)=2 tide(0,2)=1 set(5,7)=5 log(3)=1 lays(0)=0 run(2)=1 still(2)=1 B:...#/.... count(6)=0"
            + " now(0)=-3 count(2)=2 count(3)=1 count(4)=1 set(5,7)=7 lays(4)=0 now(8)=0 now(10)=4");
    }

    private static void cells() {
        check("4", "B:#b1/59. cell(0)=0 cell(1)=30 cell(2)=1 cell(3)=5 cell(4)=9 cell(5)=20 cell(6)=-1 cell(-1)=-1 cell(2147483647)=-1"
            + " cell(-2147483648)=-1 count(11)=4");
    }

    private static void settings() {
        check("5", "set(0,0)=3 set(1,1)=3 set(2,9)=0 set(3,0)=40 set(4,1)=2 set(5,0)=5 set(6,0)=30"
            + " set(0,9)=0 set(1,9)=1 set(2,0)=9 set(3,60)=0 set(4,3)=1 set(5,9)=0 set(6,99)=0"
            + " set(0,1)=9 set(1,2)=9 set(2,3)=0 set(3,4)=60 set(4,1)=3 set(5,6)=9 set(6,7)=99");
        check("5", "set(-1,0)=-2 set(7,0)=-2 set(7,-1)=-2 set(0,-1)=-4 set(1,0)=-4 set(2,-1)=-4 set(3,-1)=-4 set(4,0)=-4 set(5,-1)=-4 set(6,-1)=-4"
            + " set(0,10)=-6 set(1,10)=-6 set(2,10)=-6 set(3,61)=-6 set(4,4)=-6 set(5,10)=-6 set(6,100)=-6 count(12)=3 count(14)=7 count(16)=7"
            + " set(0,3)=3 set(1,3)=3 set(2,0)=0 set(3,40)=40 set(4,2)=2 set(5,5)=5 set(6,30)=30");
    }

    private static void books() {
        check("6", "wind(-1,8)=-1 wind(1000,-1)=-1 wind(-1,0)=-4 wind(1000,7)=-6 wind(999,7)=1 wind(0,0)=2 count(2)=2 count(11)=2 count(14)=1 count(16)=1");
        check("6", "wind(0,1)=1 wind(0,1)=2 wind(0,1)=3 wind(0,1)=4 wind(0,1)=5 wind(0,1)=6 wind(0,1)=7 wind(0,1)=8 wind(0,1)=-6 wind(0,9)=-1"
            + " wind(-5,1)=-4 count(2)=8");
        check("6", "B:" + OPEN + " lays(35)=4 set(0,0)=3 set(5,9)=5 sail(0)=1 wind(5,2)=1 wind(5,6)=2 wind(3,4)=3 now(10)=0 run(2)=1 now(10)=0 run(1)=1"
            + " now(10)=4 run(1)=1 now(10)=4 run(1)=1 now(10)=6 run(1)=1 now(10)=6 wind(5,1)=4 now(10)=1 wind(4,7)=5 now(10)=1 wind(7,3)=6 now(10)=1");
        check("7", "tide(-1,6)=-4 tide(1000,-1)=-4 tide(1000,0)=-6 tide(0,6)=-6 tide(999,5)=1 tide(0,0)=2 count(3)=2 count(14)=2 count(16)=2");
        check("7", "tide(0,1)=1 tide(0,1)=2 tide(0,1)=3 tide(0,1)=4 tide(0,1)=5 tide(0,1)=6 tide(0,1)=7 tide(0,1)=8 tide(0,1)=-6 tide(0,-1)=-4 count(3)=8");
        check("7", "B:" + OPEN + " lays(35)=4 set(0,0)=3 set(5,9)=5 sail(0)=1 tide(2,5)=1 tide(2,4)=2 tide(1,3)=3 now(11)=0 run(1)=1 now(11)=3 run(1)=1"
            + " now(11)=4 run(9)=1 now(11)=4 tide(10,1)=4 now(11)=1");
    }

    private static void laying() {
        check("8", "lays(0)=-1 B:#b2/34. lays(-1)=-1 lays(6)=-1 lays(0)=-3 lays(1)=-3 lays(2)=-3 tide(0,5)=1 lays(2)=-3 lays(3)=4 lays(5)=4 set(1,2)=3"
            + " lays(2)=4 set(1,4)=2 lays(3)=-3 count(11)=3 count(13)=5 now(0)=2");
        check("8", "B:" + OPEN + " wind(0,3)=1 wind(2,6)=2 lays(9)=7 sail(3)=1 axe()=2 haul(1)=1 set(2,9)=0 over()=4 run(3)=8 now(10)=6 lays(10)=7"
            + " now(0)=10 now(1)=7 now(2)=1 now(3)=3 now(4)=2 now(5)=0 now(6)=0 now(7)=0 now(8)=0 now(9)=1 now(10)=3 now(12)=4");
    }

    private static void nows() {
        check("9", "now(-1)=-2 now(14)=-2 now(0)=-3 now(13)=-3 B:../.. now(13)=-3 lays(0)=4 now(13)=40 now(14)=-2 count(12)=3 count(13)=3");
    }

    private static void tensOnTheWay() {
        check("10", "run(0)=-4 run(100)=-6 run(1)=-3 B:" + OPEN + " run(99)=-3 lays(0)=4 run(-1)=-4 run(100)=-6 now(8)=0");
        // 3 to her head and 4 to leeward each ten
        check("10", "B:" + OPEN + " lays(0)=4 head(2)=2 run(3)=1 now(0)=8 now(6)=9 now(7)=2 run(1)=1 now(0)=9 now(6)=2 now(7)=6 run(1)=1 now(0)=17 now(6)=5"
            + " now(7)=0 now(8)=5");
        // the lesser of sail and masts; two cells in one ten
        check("10", "B:" + OPEN + " lays(0)=4 sail(3)=1 set(0,0)=3 set(5,9)=5 run(1)=1 now(0)=8 now(6)=5 run(1)=1 now(0)=24 now(6)=0 axe()=2 run(1)=1"
            + " now(0)=32 now(6)=0 axe()=1 axe()=0 run(1)=1 now(0)=32 now(6)=0 now(7)=0");
        // nearer to the wind than she can lie: no pace
        check("10", "B:" + OPEN + " lays(35)=4 head(2)=2 set(0,0)=3 set(5,9)=5 wind(0,1)=1 run(1)=1 now(6)=0 set(4,1)=2 run(1)=0 now(6)=2 now(9)=0 sail(0)=1 run(1)=1"
            + " now(6)=2 sail(2)=0 run(1)=0 wind(0,2)=2 run(1)=1 now(6)=6");
        // guns: nine less them by three, cut
        check("10", "B:" + OPEN + " lays(0)=4 sail(0)=1 set(0,0)=3 run(1)=1 now(7)=1 set(5,6)=5 run(1)=1 now(7)=2 set(5,7)=6 run(1)=1 now(7)=2 set(5,0)=7 run(1)=1 now(7)=5"
            + " set(0,9)=0 run(1)=1 now(7)=7 now(0)=8");
        // worn and hauled are losing again, or gaining
        check("10", "B:" + OPEN + " lays(0)=4 wear(3)=2 run(1)=1 haul(2)=1 now(9)=3 run(1)=1 set(4,1)=2 haul(1)=0 now(9)=3 run(1)=0");
    }

    private static void tensInto() {
        check("10", "B:..../#### lays(0)=4 run(1)=1 run(1)=6 now(0)=4 now(6)=0 now(7)=8 now(8)=2 run(5)=6 now(8)=7 now(0)=4 now(7)=8");
        check("10", "B:..../bbbb lays(1)=4 run(2)=5 now(0)=5 now(9)=5");
        check("10", "B:..../2222/..../.... lays(1)=4 run(2)=6 now(0)=5 tide(1,1)=1 lays(1)=4 run(2)=1 now(0)=5 run(1)=1 now(0)=9 set(1,4)=3 tide(0,5)=2 lays(1)=4"
            + " run(2)=6 set(1,3)=4");
        // the tide that goes does not strand her where she is
        check("10", "B:..../2222/..../.... tide(1,1)=1 tide(2,0)=2 lays(1)=4 run(2)=1 now(0)=5 sail(0)=1 set(0,0)=3 set(5,9)=5 run(9)=1 now(0)=5 now(11)=0");
        check("10", "B:..../.... lays(5)=4 run(2)=8 now(0)=-9 now(9)=8 now(6)=0 now(7)=8 run(99)=8 now(8)=101 now(0)=-9 count(6)=1");
        // ended by her head: no cell to leeward behind it
        check("10", "B:.#../..../.... lays(0)=4 head(2)=2 set(0,9)=3 run(1)=1 now(0)=4 now(6)=3 now(7)=0 run(1)=1 now(0)=8 lays(0)=4 sail(3)=1 head(2)=2 wear(2)=2"
            + " now(0)=4 run(1)=1 now(0)=8 run(1)=8 now(0)=-9");
        check("10", "B:.#../..../.... lays(0)=4 head(2)=2 set(0,4)=3 sail(3)=1 run(1)=1 now(7)=5 run(1)=6 now(0)=1 now(6)=8 now(7)=10 now(9)=6");
        // ended by the first of two cells: the second is not gone, and not taken off
        check("10", "B:../##/.. lays(0)=4 set(0,0)=3 set(5,9)=5 sail(3)=1 run(1)=6 now(0)=2 now(6)=5 lays(0)=4 sail(1)=1 run(1)=1 now(6)=5 sail(3)=1 run(1)=6 now(6)=10 now(0)=2");
        // all eight directions
        check("10", "B:.../.../... set(0,0)=3 set(5,9)=5 set(4,1)=2 lays(4)=4 sail(2)=1 run(1)=1 now(0)=7 lays(4)=4 head(3)=3 sail(3)=1 run(1)=1 now(0)=8"
            + " lays(4)=4 head(5)=3 sail(3)=1 run(1)=1 now(0)=6 lays(4)=4 head(2)=2 sail(3)=1 run(2)=1 now(0)=5 lays(4)=4 head(6)=2 sail(3)=1 run(2)=1 now(0)=3"
            + " lays(4)=4 head(1)=1 sail(3)=1 run(2)=0 now(0)=2 lays(4)=4 head(7)=1 sail(3)=1 run(2)=0 now(0)=0 wind(0,4)=1 lays(4)=0 sail(2)=1 run(1)=1 now(0)=1");
    }

    private static void tensOfWater() {
        check("10", "B:" + OPEN + " lays(0)=4 set(2,5)=0 set(3,9)=40 sail(0)=1 set(0,0)=3 set(5,9)=5 run(5)=1 now(5)=25 now(7)=0 run(1)=1 now(7)=1 run(13)=1 now(5)=95 run(1)=7 now(5)=100");
        check("10", "B:" + OPEN + " lays(0)=4 set(2,5)=0 sail(0)=1 set(0,0)=3 set(5,9)=5 run(1)=1 now(5)=1 set(3,39)=40 run(1)=1 now(5)=3 set(2,0)=5 run(1)=1 now(5)=0");
        check("10", "B:" + OPEN + " lays(0)=4 set(2,9)=0 set(3,0)=40 sail(0)=1 set(0,0)=3 set(5,9)=5 run(3)=1 now(5)=27 now(7)=0 run(1)=1 now(7)=1 run(2)=1 now(7)=3"
            + " run(1)=1 now(7)=5 now(5)=63 run(4)=1 now(5)=99 run(1)=7 now(5)=100 now(0)=8 now(9)=7 run(1)=7 now(5)=100 now(13)=0");
        check("10", "B:" + OPEN + " lays(0)=4 set(2,9)=0 set(3,0)=40 anchor()=2 run(11)=4 run(1)=7 now(8)=12");
        // she who clears in this ten leaks no more
        check("10", "B:../.. lays(2)=4 set(2,9)=0 set(3,0)=40 sail(2)=1 run(1)=8 now(5)=0");
    }

    private static void tensAtAnchor() {
        check("15", "B:..../..../.... lays(1)=4 set(0,9)=3 anchor()=2 run(9)=4 now(0)=1 now(6)=0 now(7)=0 anchor()=-3 sail(3)=1 now(4)=2");
        check("15", "B:.8../..../.... lays(1)=4 set(0,9)=3 anchor()=2 run(1)=4 now(0)=5 run(1)=4 now(0)=5");
        check("15", "B:.8../#..#/.... lays(1)=4 set(0,9)=3 anchor()=2 axe()=2 axe()=1 run(1)=4 now(0)=1 tide(1,1)=1 run(1)=4 now(0)=1");
        check("15", "B:.8../.8../.... lays(1)=4 set(0,9)=3 anchor()=2 tide(0,1)=1 run(5)=4 now(0)=1 tide(0,0)=2 run(1)=4 now(0)=5 run(1)=4 now(0)=9");
        check("15", "B:.1../#b../.... set(1,1)=3 lays(1)=4 anchor()=2 run(1)=5 now(0)=5 now(9)=5 lays(1)=4 wind(0,1)=1 anchor()=2 run(1)=6 now(0)=4");
        check("15", "B:1.../.... set(1,1)=3 lays(0)=4 set(0,2)=3 anchor()=2 axe()=2 axe()=1 run(1)=4 now(0)=0 set(0,3)=2 run(1)=4 now(0)=4");
    }

    private static void heads() {
        check("11", "head(-1)=-1 head(8)=-1 head(0)=-3 B:" + OPEN + " head(2)=-3 lays(0)=4 head(0)=-3 head(1)=-3 head(7)=-3 head(2)=2 head(3)=3 head(4)=4 head(5)=3"
            + " head(6)=2 now(1)=6 now(9)=1 set(4,1)=2 head(7)=1 head(1)=1 set(4,3)=1 head(2)=-3 head(3)=3 now(0)=0");
        // through the wind only when the sea is 5 or less
        check("11", "B:" + OPEN + " lays(0)=4 set(0,6)=3 set(4,1)=2 head(1)=1 head(7)=-3 head(6)=-3 head(5)=3 head(7)=1 head(1)=-3 head(3)=3 head(1)=1 set(0,5)=6 head(7)=1"
            + " head(2)=2 now(1)=2");
        // ends are not counted: from a head in the wind
        check("11", "B:" + OPEN + " lays(0)=4 head(2)=2 set(0,9)=3 wind(0,2)=1 head(0)=2 head(4)=2 head(0)=2 head(5)=3 head(1)=-3 now(1)=5");
        check("11", "B:" + OPEN + " lays(0)=4 head(2)=2 set(0,9)=3 wind(0,1)=1 set(4,1)=2 head(0)=-3 head(7)=-3 head(6)=3");
        check("11", "B:..../.... lays(0)=4 anchor()=2 head(2)=-3 cut()=1 head(2)=2 wear(4)=2 run(9)=8 head(2)=-3 wear(2)=-3 haul(2)=-3");
    }

    private static void wears() {
        check("12", "wear(-1)=-1 wear(8)=-1 wear(4)=-3 B:" + OPEN + " wear(4)=-3 lays(0)=4 wear(1)=-3 wear(0)=-3 wear(2)=2 now(0)=8 now(1)=2 now(6)=0 now(7)=0 now(8)=0"
            + " set(0,9)=3 wear(6)=2 now(0)=16 wear(2)=2 now(0)=24 now(9)=2");
        check("12", "B:..../...# lays(0)=4 wear(4)=2 wear(4)=8 now(0)=-9 now(1)=4 wear(4)=-3 lays(3)=4 wear(2)=6 now(0)=7 now(13)=16");
        check("12", "B:2222/bbbb/.... set(1,2)=3 lays(0)=4 wear(4)=5 now(0)=4 B:..../2222 set(1,3)=2 lays(1)=4 wear(4)=6 now(0)=5 tide(0,1)=1 lays(1)=4 wear(4)=2 now(9)=2"
            + " lays(0)=4 anchor()=2 wear(4)=-3");
    }

    private static void hauls() {
        check("13", "haul(-1)=-1 haul(8)=-1 haul(4)=-3 B:" + OPEN + " haul(4)=-3 lays(0)=4 haul(1)=-3 set(0,9)=3 haul(2)=1 now(9)=3 now(1)=2 now(0)=0 haul(6)=0 now(1)=6"
            + " haul(2)=-3 now(1)=6 now(4)=0 anchor()=-3 lays(0)=4 anchor()=2 haul(2)=-3 now(4)=2");
        // by an anchor, through the wind in any sea
        check("13", "B:" + OPEN + " lays(0)=4 set(0,9)=3 set(4,1)=2 haul(1)=1 head(7)=-3 haul(7)=0 now(1)=7");
    }

    private static void sailsAnchorsAxesGuns() {
        check("14", "sail(-1)=-4 sail(4)=-6 sail(1)=-3 B:..../.... lays(0)=4 sail(-1)=-4 sail(4)=-6 sail(0)=1 sail(3)=0 sail(2)=3 now(2)=2 anchor()=2 sail(1)=2 cut()=1"
            + " run(99)=8 sail(1)=-3 sail(4)=-6");
        check("15", "anchor()=-3 B:..../.... anchor()=-3 lays(0)=4 anchor()=2 now(9)=4 anchor()=-3 cut()=1 anchor()=1 cut()=0 anchor()=-3 run(99)=8 anchor()=-3");
        check("16", "cut()=-3 B:..../.... cut()=-3 lays(0)=4 cut()=-3 anchor()=2 cut()=1 now(9)=1 now(4)=1 cut()=-3 now(4)=1");
        check("17", "axe()=-3 B:..../.... axe()=-3 lays(0)=4 axe()=2 axe()=1 axe()=0 axe()=-3 now(3)=0 lays(0)=4 run(99)=8 axe()=-3 now(3)=3");
        check("18", "over()=-3 B:..../.... over()=-3 lays(0)=4 over()=4 now(12)=4 over()=3 over()=2 over()=1 over()=0 over()=-3 set(5,1)=0 run(99)=8 over()=-3 now(12)=1 set(5,9)=1");
    }

    private static void livesOfTheEnded() {
        check("9", "B:..../bbbb lays(0)=4 run(2)=5 set(3,51)=40 now(13)=25 set(6,0)=30 lays(0)=4 run(2)=5 set(3,24)=51 now(13)=4 B:..../#### set(6,30)=0 lays(0)=4 run(2)=6 set(3,22)=24 now(13)=8");
        check("9", "B:..../bbbb lays(0)=4 run(2)=5 now(13)=20 set(6,0)=30 tide(0,5)=1 now(13)=20 set(3,33)=40 now(13)=16 set(3,0)=33 now(13)=0");
        check("9", "B:..../bbbb set(6,1)=30 lays(0)=4 run(2)=5 now(13)=8 set(6,99)=1 now(13)=8 set(6,2)=99 lays(0)=4 run(2)=5 now(13)=20");
        check("9", "B:..../bbbb tide(1,3)=1 tide(2,0)=2 lays(0)=4 run(2)=5 now(13)=32 tide(1,5)=3 lays(0)=4 run(2)=5 now(13)=40 now(11)=0 set(6,0)=30 lays(0)=4 run(2)=5"
            + " now(13)=28");
        check("9", "B:..../#### lays(0)=4 run(2)=6 now(13)=16 set(6,1)=30 now(13)=16 lays(0)=4 run(2)=6 now(13)=4 set(3,19)=40 now(13)=1 set(6,99)=1 lays(0)=4 run(2)=6 now(13)=7"
            + " tide(0,5)=1 lays(0)=4 run(2)=6 now(13)=7");
        check("9", "B:..../bbbb lays(0)=4 wear(4)=5 now(13)=20 set(6,0)=30 lays(0)=4 wear(4)=5 now(13)=8 now(8)=0");
    }

    private static void stills() {
        check("19", "B:##.##/##.##/##### wind(0,4)=1 still(7)=2 still(2)=1 clears()=2 wind(0,0)=2 clears()=0");
        check("19", "still(0)=-1 B:########/#......./######## still(-1)=-1 still(24)=-1 still(0)=-9 wind(0,4)=1 still(15)=1 still(14)=2 still(13)=3 still(12)=-9 still(9)=-9"
            + " clears()=3 set(4,3)=2 clears()=1 still(15)=1 still(14)=-9 set(4,1)=3 clears()=3 count(11)=3");
        check("19", "B:########/#...####/####..../####.... still(9)=4 still(10)=3 still(11)=3 still(20)=2 still(28)=1 still(31)=1 clears()=11");
        // the third move ends beyond the bay when the cell to leeward is
        check("19", "B:###/#.#/#.#/#.#/#.#/#.# set(4,3)=2 still(4)=4 still(7)=3 still(10)=3 still(13)=2 still(16)=1 clears()=5");
        // depth counts, the tide does not; the wind is as now
        check("19", "B:####/#.2./#### tide(0,5)=1 still(5)=-9 still(6)=-9 still(7)=1 set(1,2)=3 still(5)=3 still(6)=2 clears()=3 B:b.b/... still(0)=-9 still(1)=2 clears()=4");
        check("20", "clears()=0 B:####/..../#### clears()=4 B:.##/##. clears()=2 B:b#/## clears()=0");
        check("20", "B:#####/##.##/##.##/##### clears()=0 still(7)=-9 still(12)=-9 B:" + OPEN + " clears()=64 still(27)=4 still(35)=3");
        // the wind by ten as it is
        check("19", "B:#####/##.##/##.##/##.## wind(3,4)=1 still(7)=3 lays(7)=4 sail(0)=1 set(0,0)=3 set(5,9)=5 run(2)=1 still(7)=3 run(1)=1 now(10)=4 still(7)=-9 still(17)=-9 clears()=0");
    }

    private static void lines() {
        check("21", "line()=-3 B:..../#### line()=-3 lays(3)=4 head(2)=2 line()=2 now(2)=1 lays(2)=4 head(2)=2 line()=3 lays(1)=4 head(2)=2 line()=-9 sail(0)=1 line()=-9 now(8)=0"
            + " now(0)=1 axe()=2 axe()=1 lays(3)=4 head(2)=2 axe()=2 axe()=1 line()=-9 set(5,9)=5 set(0,0)=3 line()=1 lays(3)=4 run(9)=6 line()=-9");
        check("21", "B:..../.... lays(0)=4 run(99)=8 line()=1 lays(0)=4 sail(3)=1 anchor()=2 line()=-9 now(9)=4 now(2)=3");
        // 60 tens, no more: at pace 0 she slides one cell to leeward in ten tens
        check("21", "B:../../../../../.. set(0,1)=3 set(5,9)=5 set(4,2)=2 lays(0)=4 wind(0,4)=1 wind(0,2)=2 line()=1 wind(0,0)=3 line()=1");
        check("21", "B:../../../../../../.. set(0,1)=3 set(5,9)=5 lays(2)=4 head(2)=2 wind(0,2)=1 wind(0,0)=2 set(4,3)=2 line()=1 lays(0)=4 set(4,2)=3 head(2)=2 set(4,3)=2"
            + " line()=-9 lays(2)=4 set(4,2)=3 head(2)=2 set(4,3)=2 line()=1");
    }

    private static void lighters() {
        check("22", "lighter()=1000000003 count(13)=1 B:..../#### lighter()=1000000003 count(13)=2 lays(1)=4 head(2)=2 lighter()=-1 set(5,9)=5 lighter()=-2 now(12)=9"
            + " now(8)=0 now(0)=1 set(0,0)=3 sail(0)=1 lighter()=-56 set(5,0)=9 lighter()=0 set(0,3)=0 set(5,9)=0 run(50)=6 lighter()=0");
        // without guns she slides into the open before she strikes by her head
        check("22", "B:...#/...#/...#/#... set(5,9)=5 set(0,0)=3 lays(2)=4 head(2)=2 lighter()=0 sail(0)=1 lighter()=-46");
    }

    private static void holding() {
        check("23", "holds(0,0,0)=-1 B:#b1/39. holds(6,-1,9)=-1 holds(0,-1,6)=-4 holds(0,4,-1)=-4 holds(0,4,0)=-6 holds(0,0,6)=-6 holds(0,0,0)=-3 holds(1,3,5)=-3 holds(2,0,0)=2"
            + " holds(2,1,0)=2 holds(2,2,0)=1 holds(2,3,0)=1 holds(2,3,1)=2 holds(3,3,5)=8 holds(4,0,0)=9 holds(4,3,0)=9 holds(5,3,5)=9 holds(3,3,0)=3 holds(3,0,0)=4 count(14)=2"
            + " count(16)=2 count(13)=2 count(11)=2");
    }

    private static void beaches() {
        check("24", "beachBest()=-9 B:../.. beachBest()=-9 B:.b/.. beachBest()=0 tide(7,2)=1 beachBest()=7 tide(20,3)=2 beachBest()=20 tide(25,3)=3 beachBest()=20 set(6,20)=30"
            + " beachBest()=7 set(6,6)=20 beachBest()=0 tide(0,0)=4 tide(30,5)=5 beachBest()=30 set(6,0)=6 beachBest()=30 set(3,0)=40 beachBest()=0 count(6)=0");
        check("24", "B:b./.. tide(31,5)=1 beachBest()=0 tide(30,1)=2 set(6,31)=30 beachBest()=30 set(6,30)=31 beachBest()=0 set(3,1)=40 set(6,99)=30 beachBest()=0");
    }

    private static void plans() {
        check("25", "B:..../..../..../#### set(0,1)=3 set(5,9)=5 lays(0)=4 sail(0)=1 axe()=2 axe()=1 axe()=0 run(9)=1 plan(0,-1)=40 plan(0,0)=-9 run(1)=1 plan(0,-1)=16");
        check("25", "B:5555/#### set(0,6)=3 lays(3)=4 head(2)=2 plan(3,0)=4 plan(3,1)=0 plan(3,2)=0 plan(4,0)=4 plan(4,1)=0 plan(4,2)=0 plan(4,3)=0");
        check("25", "plan(-1,5)=-4 plan(5,-2)=-4 plan(0,-2)=-4 plan(5,0)=-6 plan(4,-1)=-3 plan(0,0)=-3 count(14)=3 count(16)=1 count(13)=2");
        check("25", "B:..../#### lays(1)=4 head(2)=2 plan(0,-1)=16 plan(0,0)=-9 plan(1,-1)=40 plan(1,0)=3 plan(1,1)=-9 plan(2,0)=0 plan(2,1)=3 plan(3,0)=0 plan(3,1)=0 plan(3,2)=3"
            + " plan(4,-1)=40 plan(4,0)=0 plan(4,1)=0 plan(4,2)=3 plan(4,3)=0 plan(4,4)=-9 plan(4,2147483647)=-9 now(0)=1 now(8)=0 now(4)=2 now(9)=1");
        check("25", "B:5555/#### set(0,6)=3 lays(3)=4 wear(2)=6 lays(3)=4 head(2)=2 plan(0,-1)=16 plan(1,-1)=40 plan(1,0)=4 plan(2,0)=4 plan(2,1)=0 plan(4,-1)=40 run(9)=6 plan(4,-1)=16"
            + " plan(4,0)=0");
        // wearing 2 more, and 2 less
        check("25", "B:#######/#...###/#...###/###.###/####### wind(0,2)=1 set(0,0)=3 set(5,9)=5 lays(17)=6 plan(0,-1)=16 plan(1,-1)=40 plan(1,0)=3 sail(0)=1 plan(1,0)=0");
        check("25", "B:####/#..#/#..#/##.# set(0,9)=3 set(5,9)=5 set(1,9)=3 lays(5)=4 axe()=2 anchor()=2 cut()=1 anchor()=1 cut()=0 plan(0,-1)=16 head(2)=2 plan(1,-1)=16 plan(1,0)=0");
        check("25", "B:b../#../... set(4,2)=2 wind(0,2)=1 lays(1)=6 plan(0,-1)=20 plan(1,-1)=40 plan(1,0)=3 haul(6)=1 haul(6)=0 plan(1,-1)=20 plan(1,0)=0 lays(2)=6 haul(6)=1"
            + " haul(6)=0 plan(1,-1)=20 plan(1,0)=0 plan(2,-1)=40 plan(2,0)=0 plan(2,1)=1");
        check("25", "B:.../#../b.. wind(0,2)=1 lays(8)=6 haul(6)=1 haul(6)=0 plan(0,-1)=20 plan(1,-1)=20 plan(1,0)=0 plan(2,-1)=40 plan(2,0)=0 plan(2,1)=2");
    }

    private static void stoods() {
        check("26", "B:..../#### lays(0)=4 wind(0,4)=1 wind(3,0)=2 stood(3,2)=0 wind(2,0)=3 stood(3,2)=-9");
        check("26", "stood(0,0)=-1 B:..../#b2# stood(8,0)=-1 stood(0,8)=-1 stood(0,-1)=-1 stood(0,2)=-3 stood(4,2)=-3 count(11)=4 count(13)=2 lays(0)=4 stood(4,2)=-3 stood(5,2)=-3"
            + " stood(6,2)=-3 stood(3,2)=-9 wind(10,4)=1 stood(3,2)=40 wind(20,0)=2 stood(3,2)=17 sail(2)=1 stood(3,2)=40 now(0)=0 now(2)=2 now(8)=0 sail(1)=2 run(2)=6 stood(3,2)=17"
            + " set(5,9)=5 stood(3,2)=40 stood(2,2)=16");
    }

    private static void worths() {
        check("27", "worth(-1,8)=1000000001 worth(-1,0)=1000000004 worth(30,0)=1000000006 worth(29,0)=1000000003 count(11)=1 count(14)=1 count(16)=1 count(13)=1");
        check("27", "B:..../#### worth(0,4)=1000000003 lays(1)=4 head(2)=2 worth(0,4)=24 worth(2,4)=24 worth(3,4)=0 worth(29,4)=0 wind(0,4)=1 worth(0,0)=-24 worth(1,0)=-24 worth(3,0)=0"
            + " now(0)=1 now(8)=0 now(10)=4");
        // from n tens on from now; 30 tens and no more
        check("27", "B:..../#### lays(0)=4 sail(0)=1 set(0,0)=3 set(5,9)=5 run(20)=1 set(0,3)=0 head(2)=2 worth(0,4)=24 worth(3,4)=24 worth(4,4)=0 set(0,0)=3 set(6,99)=30 set(5,8)=9 worth(0,4)=0"
            + " set(5,5)=8 worth(0,4)=24");
        // the told wind stays, whatever the book says behind it
        check("27", "B:..../..../#### lays(1)=4 head(2)=2 sail(0)=1 wind(2,0)=1 worth(0,4)=24 worth(0,2)=24");
    }

    private static void lights() {
        check("28", "B:#......#/########/.......# light()=23 B:.#/.#/.#/.#/.#/.#/.#/## light()=14 B:##/#./#./#./#./#./#./#. light()=1");
        check("28", "light()=-9 B:../.. light()=-9 B:##/## light()=0 B:#.#/.../#b. light()=0 B:#b../#### light()=0 B:#bbb/####/####/###. light()=10 B:b#/.# light()=1");
        check("28", "B:......../......../......../...#..../......../......../......../.......# light()=27 B:#......#/......../#......# light()=0 B:..../.#../..#./.... light()=5");
    }

    private static void nights() {
        check("29", "night(0,1)=-4 night(100,1)=-6 night(1,1)=-3 count(14)=1 count(16)=1 count(13)=1");
        check("29", "B:..../#### lays(1)=4 head(2)=2 night(1,0)=40 night(99,7)=16 now(0)=1 now(8)=0 now(10)=0 set(3,10)=40 night(99,7)=4");
        // draws of 0 below 10 ahead of: ten 0 (23: 4), ten 1 (2: 4), ten 2 (33: 4), ten 3 (130: 4)
        check("29", "B:..../#### lays(1)=4 head(2)=2 night(3,23)=40 night(99,23)=40 night(3,2)=40 night(3,33)=40 night(3,130)=16 night(99,130)=16 night(2,0)=40 night(3,0)=16");
        // ten 0 (57: 2), ten 0 (-138: 6), ten 0 and ten 2 (-133: 5 and 4, gone round)
        check("29", "B:.b../#### lays(0)=4 head(2)=2 night(4,0)=16 night(4,57)=40 night(4,-138)=20 B:..../#### lays(2)=4 head(2)=2 night(3,-133)=16 night(3,-2147483648)=16");
        // what was thought in a night is not thought in the next question
        check("26", "B:..../#### lays(1)=4 stood(3,2)=-9 night(1,23)=40 stood(3,2)=-9 worth(0,4)=24 stood(3,2)=-9 lighter()=0 stood(3,2)=-9");
    }

    private static void logs() {
        check("30", "log(-1)=-4 log(100)=-6 log(0)=1 log(99)=2 log(5)=3 log(5)=4 log(5)=5 log(5)=6 log(5)=7 log(5)=8 log(5)=9 log(5)=10 log(5)=11 log(5)=12 log(5)=-6 log(-1)=-4"
            + " count(4)=12 count(14)=2 count(16)=2 judge()=-3 count(4)=12 count(13)=1");
        check("31", "B:" + OPEN + " judge()=-3 lays(0)=4 judge()=-9 head(2)=2 log(0)=1 log(0)=2 log(8)=3 log(9)=4 log(17)=5 judge()=-9 count(4)=0 now(0)=0 now(8)=0"
            + " log(0)=1 log(1)=2 log(8)=3 judge()=1 count(4)=0 log(1)=1 judge()=0 judge()=-9 log(0)=1 log(0)=2 log(8)=3 log(9)=4 log(18)=5 judge()=4");
        check("31", "B:..../.... lays(5)=4 log(5)=1 log(99)=2 log(99)=3 judge()=-9 log(5)=1 log(99)=2 log(1)=3 judge()=2 log(99)=1 judge()=0 run(2)=8 log(99)=1 judge()=-9"
            + " B:..../#### lays(0)=4 log(0)=1 log(4)=2 log(4)=3 log(99)=4 judge()=3");
    }

    private static void images() {
        check("33", "B:..../bbbb set(6,0)=30 lays(0)=4 run(2)=5 now(13)=8 image()=8 lays(0)=4 on()=8 now(13)=8 B:.#/b5 image()=4 B:../../.. on()=4 cell(0)=20 cell(1)=0 cell(2)=30 cell(3)=5 cell(4)=-1");
        check("32", "on()=-3 image()=0 on()=0 B:../.. count(0)=2 on()=0 count(0)=0 count(1)=0 cell(0)=-1 on()=0 count(13)=1");
        check("33", "B:" + OPEN + " wind(0,2)=1 tide(0,4)=1 set(0,1)=3 set(1,2)=3 set(2,4)=0 set(3,35)=40 set(4,1)=2 set(5,8)=5 set(6,22)=30 lays(9)=6 sail(2)=1 axe()=2 haul(4)=1 run(3)=1"
            + " log(7)=1 L:../ image()=64 now(0)=17 now(6)=8 now(7)=3 now(5)=3"
            + " wind(0,3)=2 tide(0,5)=2 set(0,5)=1 set(1,5)=2 set(2,5)=4 set(3,55)=35 set(4,3)=1 set(5,5)=8 set(6,55)=22 run(9)=8 log(7)=2 L:.. bay()=4 lays(0)=7 count(5)=0"
            + " on()=64 count(0)=8 count(1)=8 count(2)=1 count(3)=1 count(4)=2 count(5)=0 count(6)=1 now(0)=17 now(1)=4 now(2)=2 now(3)=2 now(4)=1 now(5)=3 now(6)=8 now(7)=3 now(8)=3"
            + " now(9)=1 now(10)=2 now(11)=4 now(12)=8 now(13)=35 set(0,1)=1 set(1,1)=2 set(2,1)=4 set(3,1)=35 set(4,1)=1 set(5,1)=8 set(6,1)=22 on()=64 set(0,1)=1 run(99)=8 on()=64"
            + " now(0)=17 image()=64 count(13)=0");
        check("33", "B:..../bbbb tide(1,3)=1 lays(0)=4 run(2)=5 now(13)=32 image()=8 lays(0)=4 run(1)=1 now(13)=40 on()=8 now(9)=5 now(13)=32 now(8)=2 now(0)=4");
        check("33", "B:..../.... image()=8 lays(0)=4 run(3)=8 wind(0,4)=1 on()=8 count(6)=0 now(8)=-3 count(2)=0 lays(0)=4 now(8)=0");
    }

    private static void counts() {
        check("34", "count(-1)=-9 count(7)=-9 count(10)=-9 count(17)=-9 count(2147483647)=-9 count(-2147483648)=-9 count(15)=0 count(12)=0 set(9,9)=-2 count(12)=1 now(99)=-2 count(12)=2"
            + " worth(0,9)=1000000001 count(11)=1 L:... count(5)=3 log(1)=1 count(4)=1");
    }

    private static void fault(String text, int place) {
        check("3", "L:" + text + " count(5)=" + text.length() + " bay()=" + (-1000 - place) + " count(5)=0 count(0)=0 count(6)=0 count(11)=0 count(13)=0 count(14)=0 count(16)=0");
    }

    private static void check(String promise, String script) {
        Script.check("promise " + promise, script);
    }
}
