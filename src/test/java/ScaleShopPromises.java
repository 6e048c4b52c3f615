/** The promises of the document one by one: ordinary inputs, the edges that it names, and wrong inputs. */
public final class ScaleShopPromises {
    private static final int POINT = 0;
    private static final int LINE = 1;
    private static final int RIVER = 2;
    private static final int ROAD = 3;
    private static final int BORDER = 4;
    private static final int AREA = 5;
    private static final int HOUSE = 6;
    private static final int NONE = ScaleShop.NONE;

    private static int wrong = 0;
    private static int asked = 0;
    private static String promise = "";

    public static void main(String[] args) {
        newObject();
        feature();
        featureRoom();
        corner();
        cornerRoom();
        tear();
        done();
        simpleLines();
        simpleRings();
        plainer();
        plainerAmongOthers();
        plainerOfRings();
        plainerRefusals();
        smooth();
        smoothRefusals();
        shiftLines();
        shiftAreas();
        shiftPoints();
        shiftHouses();
        shiftSweeps();
        shiftRefusals();
        grow();
        growRefusals();
        square();
        squareRefusals();
        join();
        joinTakenBack();
        joinRefusals();
        drop();
        few();
        choose();
        run();
        undo();
        undoFence();
        redo();
        meets();
        inside();
        side();
        near();
        clashes();
        clash();
        far();
        size();
        at();
        told();
        step();
        count();
        status();
        System.out.println(asked + " answers asked, " + wrong + " not as due");
        if (wrong != 0) {
            System.exit(1);
        }
    }

    private static void due(String call, long got, long want) {
        asked++;
        if (got != want) {
            wrong++;
            System.out.println(promise + ": " + call + " answered " + got + ", due is " + want);
        }
    }

    private static void due(String call, boolean got, boolean want) {
        due(call, got ? 1 : 0, want ? 1 : 0);
    }

    private static void refused(ScaleShop x, String call, long got, int why) {
        due(call, got, NONE);
        due(call + ", status", x.status(), why);
    }

    private static void refused(ScaleShop x, String call, boolean got, int why) {
        due(call, got, false);
        due(call + ", status", x.status(), why);
    }

    private static void granted(ScaleShop x, String call, boolean got) {
        due(call, got, true);
        due(call + ", status", x.status(), 0);
    }

    private static void row(ScaleShop x, String when, int feature, int... places) {
        due(when + ": corners of " + feature, x.told(feature, 4), places.length / 2);
        for (int k = 0; k < places.length / 2; k++) {
            due(when + ": x of " + feature + ", " + k, x.at(feature, k, 0), places[2 * k]);
            due(when + ": y of " + feature + ", " + k, x.at(feature, k, 1), places[2 * k + 1]);
        }
    }

    private static int open(ScaleShop x, int kind, int... places) {
        int number = x.feature(kind, 0, 0, 0);
        for (int k = 0; k + 1 < places.length; k += 2) {
            x.corner(number, places[k], places[k + 1]);
        }
        return number;
    }

    private static int there(ScaleShop x, int kind, int... places) {
        int number = open(x, kind, places);
        due("done of kind " + kind, x.done(number), true);
        return number;
    }

    private static int wide(ScaleShop x, int kind, int width, int... places) {
        int number = x.feature(kind, 0, width, 0);
        for (int k = 0; k + 1 < places.length; k += 2) {
            x.corner(number, places[k], places[k + 1]);
        }
        due("done of kind " + kind, x.done(number), true);
        return number;
    }

    private static int ranked(ScaleShop x, int kind, int rank, int town, int... places) {
        int number = x.feature(kind, rank, 0, town);
        for (int k = 0; k + 1 < places.length; k += 2) {
            x.corner(number, places[k], places[k + 1]);
        }
        due("done of kind " + kind, x.done(number), true);
        return number;
    }

    private static int house(ScaleShop x, int left, int low, int right, int high) {
        return there(x, HOUSE, left, low, right, low, right, high, left, high);
    }

    private static int tornThere(ScaleShop x, int kind, int... places) {
        int number = there(x, kind, places);
        due("tear", x.tear(number), true);
        return number;
    }

    private static boolean canBeDone(int kind, int... places) {
        ScaleShop x = new ScaleShop();
        int number = open(x, kind, places);
        boolean answer = x.done(number);
        due("status of done", x.status(), answer ? 0 : 6);
        return answer;
    }

    private static void newObject() {
        promise = "promise 1";
        ScaleShop x = new ScaleShop();
        for (int what = 0; what <= 7; what++) {
            due("count(" + what + ")", x.count(what), 0);
        }
        due("status()", x.status(), 0);
        due("NONE", NONE, -1);
        refused(x, "undo()", x.undo(), 8);
        due("another object", new ScaleShop().status(), 0);
    }

    private static void feature() {
        promise = "promise 2";
        ScaleShop x = new ScaleShop();
        due("feature", x.feature(0, 0, 0, 0), 0);
        due("feature", x.feature(6, 9, 100, 9), 1);
        due("OPEN", x.told(1, 5), 0);
        due("kind", x.told(1, 0), 6);
        due("rank", x.told(1, 1), 9);
        due("width", x.told(1, 2), 100);
        due("town", x.told(1, 3), 9);
        refused(x, "kind -1", x.feature(-1, 0, 0, 0), 4);
        refused(x, "kind 7", x.feature(7, 0, 0, 0), 4);
        refused(x, "rank -1", x.feature(0, -1, 0, 0), 4);
        refused(x, "rank 10", x.feature(0, 10, 0, 0), 4);
        refused(x, "width -1", x.feature(0, 0, -1, 0), 4);
        refused(x, "width 101", x.feature(0, 0, 101, 0), 4);
        refused(x, "town -1", x.feature(0, 0, 0, -1), 4);
        refused(x, "town 10", x.feature(0, 0, 0, 10), 4);
        due("count(0)", x.count(0), 2);
        due("next number", x.feature(3, 1, 2, 3), 2);
        due("status", x.status(), 0);
    }

    private static void featureRoom() {
        promise = "promise 2";
        ScaleShop x = new ScaleShop();
        for (int i = 0; i < 200; i++) {
            due("feature", x.feature(POINT, 0, 0, 0), i);
        }
        refused(x, "the 201st", x.feature(POINT, 0, 0, 0), 8);
        refused(x, "4 before 8", x.feature(7, 0, 0, 0), 4);
        due("count(0)", x.count(0), 200);
    }

    private static void corner() {
        promise = "promise 3";
        ScaleShop x = new ScaleShop();
        int line = open(x, LINE);
        due("first", x.corner(line, 0, 0), 1);
        due("second", x.corner(line, 1000, 1000), 2);
        refused(x, "x -1", x.corner(line, -1, 0), 4);
        refused(x, "y -1", x.corner(line, 0, -1), 4);
        refused(x, "x 1001", x.corner(line, 1001, 0), 4);
        refused(x, "y 1001", x.corner(line, 0, 1001), 4);
        refused(x, "no feature -1", x.corner(-1, 0, 0), 1);
        refused(x, "no feature 1", x.corner(1, 0, 0), 1);
        row(x, "after refusals", line, 0, 0, 1000, 1000);
        due("alike ones may be told", x.corner(line, 1000, 1000), 3);
        due("status", x.status(), 0);
        int other = there(x, LINE, 0, 0, 5, 5);
        refused(x, "THERE, 2 before 4", x.corner(other, -1, 0), 2);
        x.drop(other);
        refused(x, "GONE", x.corner(other, 1, 1), 2);
        x.tear(line);
        refused(x, "TORN, 4 before 5", x.corner(line, -1, 0), 4);
        refused(x, "TORN", x.corner(line, 1, 0), 5);
    }

    private static void cornerRoom() {
        promise = "promise 3";
        ScaleShop x = new ScaleShop();
        int point = open(x, POINT, 3, 3);
        refused(x, "POINT", x.corner(point, 4, 4), 6);
        refused(x, "POINT, 4 before 6", x.corner(point, 4, -4), 4);
        for (int kind = LINE; kind <= HOUSE; kind++) {
            int number = open(x, kind);
            for (int k = 0; k < 40; k++) {
                due("corner", x.corner(number, k, 0), k + 1);
            }
            refused(x, "the 41st of kind " + kind, x.corner(number, 40, 0), 6);
            due("corners", x.told(number, 4), 40);
        }
    }

    private static void tear() {
        promise = "promise 4";
        ScaleShop x = new ScaleShop();
        int open = open(x, LINE, 1, 1, 2, 2);
        granted(x, "OPEN", x.tear(open));
        due("still OPEN", x.told(open, 5), 0);
        due("TORN", x.told(open, 6), 1);
        due("no corners", x.told(open, 4), 0);
        due("at", x.at(open, 0, 0), NONE);
        refused(x, "again", x.tear(open), 5);
        refused(x, "corner", x.corner(open, 3, 3), 5);
        refused(x, "done", x.done(open), 5);
        int line = there(x, LINE, 0, 0, 9, 0);
        granted(x, "THERE", x.tear(line));
        due("still THERE", x.told(line, 5), 1);
        refused(x, "THERE again", x.tear(line), 5);
        due("TORN in all", x.count(3), 2);
        refused(x, "-1", x.tear(-1), 1);
        refused(x, "2", x.tear(2), 1);
        int gone = there(x, POINT, 5, 5);
        x.drop(gone);
        refused(x, "GONE", x.tear(gone), 2);
        due("GONE is not TORN", x.told(gone, 6), 0);
    }

    private static void done() {
        promise = "promise 5";
        ScaleShop x = new ScaleShop();
        int line = open(x, LINE, 0, 0);
        refused(x, "too few", x.done(line), 6);
        x.corner(line, 5, 0);
        granted(x, "enough", x.done(line));
        due("THERE", x.told(line, 5), 1);
        refused(x, "again", x.done(line), 2);
        x.drop(line);
        refused(x, "GONE", x.done(line), 2);
        refused(x, "no such", x.done(1), 1);
        refused(x, "no such", x.done(-1), 1);
        int torn = open(x, LINE, 0, 0);
        x.tear(torn);
        refused(x, "TORN, 5 before 6", x.done(torn), 5);
        due("POINT without", canBeDone(POINT), false);
        due("POINT", canBeDone(POINT, 1, 1), true);
        due("RIVER of one", canBeDone(RIVER, 1, 1), false);
        due("AREA of two", canBeDone(AREA, 0, 0, 5, 5), false);
        due("AREA of three", canBeDone(AREA, 0, 0, 5, 5, 0, 5), true);
        due("HOUSE of three", canBeDone(HOUSE, 0, 0, 5, 0, 0, 5), false);
        due("HOUSE of four", canBeDone(HOUSE, 0, 0, 5, 0, 5, 5, 0, 5), true);
    }

    private static void simpleLines() {
        promise = "SIMPLE";
        due("alike neighbours", canBeDone(LINE, 0, 0, 0, 0, 5, 5), false);
        due("two alike", canBeDone(ROAD, 4, 4, 4, 4), false);
        due("straight on", canBeDone(LINE, 0, 0, 5, 0, 9, 0), true);
        due("back on itself", canBeDone(LINE, 0, 0, 9, 0, 5, 0), false);
        due("back beyond its beginning", canBeDone(LINE, 5, 0, 9, 0, 0, 0), false);
        due("crossing itself", canBeDone(LINE, 0, 0, 10, 0, 10, 10, 5, -0, 5, 10), false);
        due("crossing", canBeDone(BORDER, 0, 5, 10, 5, 10, 10, 5, 10, 5, 0), false);
        due("touching itself", canBeDone(LINE, 0, 5, 10, 5, 10, 10, 5, 10, 5, 5), false);
        due("nearly touching itself", canBeDone(LINE, 0, 5, 10, 5, 10, 10, 5, 10, 5, 6), true);
        due("closed", canBeDone(LINE, 0, 0, 10, 0, 10, 10, 0, 0), false);
        due("there and back", canBeDone(LINE, 0, 0, 10, 0, 0, 0), false);
        due("lying on an edge that is no neighbour", canBeDone(LINE, 0, 0, 10, 0, 10, 5, 12, 5, 12, 0, 8, 0), false);
    }

    private static void simpleRings() {
        promise = "SIMPLE";
        due("three on one line", canBeDone(AREA, 0, 0, 5, 0, 9, 0), false);
        due("bow", canBeDone(AREA, 0, 0, 10, 10, 10, 0, 0, 10), false);
        due("first told again", canBeDone(AREA, 0, 0, 10, 0, 10, 10, 0, 0), false);
        due("the last edge crosses", canBeDone(AREA, 0, 0, 10, 0, 10, 10, 5, -0, 4, 10), false);
        due("the last edge touches a corner", canBeDone(AREA, 0, 0, 10, 0, 5, 5, 10, 10), false);
        due("hollow", canBeDone(AREA, 0, 0, 10, 0, 4, 4, 0, 10), true);
        due("a spike", canBeDone(AREA, 0, 0, 10, 0, 10, 10, 10, 5), false);
        due("a corner on a straight edge", canBeDone(AREA, 0, 0, 5, 0, 10, 0, 5, 5), true);
        due("HOUSE with such a corner", canBeDone(HOUSE, 0, 0, 5, 0, 10, 0, 10, 5, 0, 5), false);
        due("HOUSE aslant", canBeDone(HOUSE, 5, 0, 10, 5, 5, 10, 0, 5), true);
        due("HOUSE with six", canBeDone(HOUSE, 0, 0, 8, 0, 8, 4, 4, 4, 4, 8, 0, 8), true);
        due("HOUSE as a slanted box", canBeDone(HOUSE, 0, 0, 5, 0, 7, 5, 2, 5), false);
        due("HOUSE that is wrong at the last corner alone", canBeDone(HOUSE, 1, 0, 5, 0, 5, 5, 0, 5), false);
    }

    private static void plainer() {
        promise = "promise 6";
        ScaleShop x = new ScaleShop();
        // Twice the triangles: 20 at corner 1; then 100 and 60; then the last one.
        int line = there(x, LINE, 0, 0, 10, 1, 20, 0, 30, 5, 40, 4);
        refused(x, "limit too low", x.plainer(line, 19), 8);
        due("limit is enough", x.plainer(line, 20), 1);
        row(x, "after the first", line, 0, 0, 20, 0, 30, 5, 40, 4);
        due("the least one", x.plainer(line, 60), 1);
        row(x, "after the second", line, 0, 0, 20, 0, 40, 4);
        due("the ends stay", x.plainer(line, Integer.MAX_VALUE), 1);
        row(x, "after the third", line, 0, 0, 40, 4);
        refused(x, "two corners", x.plainer(line, 1000), 8);
        due("no refusal by 7", x.count(7), 0);
        ScaleShop y = new ScaleShop();
        int flat = there(y, RIVER, 0, 0, 5, 0, 9, 0);
        due("limit 0, no area", y.plainer(flat, 0), 1);
        int alike = there(y, BORDER, 0, 10, 2, 12, 4, 10, 6, 12, 8, 10);
        due("again and again, of several the least number", y.plainer(alike, 8), 2);
        row(y, "the last one has 16", alike, 0, 10, 6, 12, 8, 10);
    }

    private static void plainerAmongOthers() {
        promise = "promise 6";
        ScaleShop x = new ScaleShop();
        int line = there(x, LINE, 0, 0, 10, 10, 20, 0, 30, 12, 40, 0);
        int point = there(x, POINT, 10, 4);
        due("another one goes instead", x.plainer(line, 250), 1);
        row(x, "the corner over the point stays", line, 0, 0, 10, 10, 30, 12, 40, 0);
        x.undo();
        x.drop(point);
        int touching = there(x, LINE, 10, 10, 10, 30);
        due("one that touches a corner keeps it", x.plainer(line, 200), NONE);
        x.tear(touching);
        due("a TORN one keeps nothing", x.plainer(line, 200), 1);
        row(x, "the touched one went", line, 0, 0, 20, 0, 30, 12, 40, 0);

        ScaleShop y = new ScaleShop();
        int arch = there(y, LINE, 0, 0, 10, 10, 20, 0);
        int onEdge = there(y, POINT, 5, 5);
        refused(y, "a corner on the triangle's edge", y.plainer(arch, 1000), 8);
        y.drop(onEdge);
        int atEnd = there(y, LINE, 0, 0, 0, 20);
        due("a corner at a neighbour is spared", y.plainer(arch, 1000), 1);
        y.undo();
        int chord = there(y, POINT, 10, 0);
        refused(y, "the new edge would meet", y.plainer(arch, 1000), 8);
        y.drop(chord);
        int through = there(y, LINE, 10, 5, 10, 300);
        refused(y, "one that crosses the corner", y.plainer(arch, 1000), 8);
        y.drop(through);
        y.drop(atEnd);
        open(y, POINT, 10, 5);
        due("an OPEN one hinders nobody", y.plainer(arch, 1000), 1);

        ScaleShop z = new ScaleShop();
        int hook = there(z, LINE, 0, 0, 20, 0, 20, 10, 10, 10, 10, 3, 5, 3);
        // Corner 4 (twice 35) goes; corner 3 would draw the line through the others.
        due("not SIMPLE then", z.plainer(hook, 35), 1);
        row(z, "hook", hook, 0, 0, 20, 0, 20, 10, 10, 10, 5, 3);
    }

    private static void plainerOfRings() {
        promise = "promise 6";
        ScaleShop x = new ScaleShop();
        int area = there(x, AREA, 0, 0, 10, 0, 20, 0, 20, 20, 0, 20);
        due("a corner of no area", x.plainer(area, 0), 1);
        row(x, "box", area, 0, 0, 20, 0, 20, 20, 0, 20);
        due("corner 0 may go", x.plainer(area, 400), 1);
        row(x, "triangle", area, 20, 0, 20, 20, 0, 20);
        refused(x, "none of three", x.plainer(area, 2000000), 8);
        x.undo();
        int within = there(x, POINT, 2, 2);
        due("who is inside stays inside", x.plainer(area, 400), 1);
        row(x, "the first one that has nobody in its triangle went", area, 0, 0, 20, 0, 0, 20);
        x.drop(within);
        int around = there(x, AREA, 100, 100, 200, 100, 200, 200, 100, 200);
        there(x, POINT, 101, 150);
        there(x, POINT, 199, 151);
        there(x, POINT, 150, 101);
        there(x, POINT, 150, 199);
        refused(x, "all hold somebody", x.plainer(around, 2000000), 8);
    }

    private static void plainerRefusals() {
        promise = "promise 6";
        ScaleShop x = new ScaleShop();
        int point = there(x, POINT, 500, 500);
        int house = house(x, 0, 0, 5, 5);
        int open = open(x, LINE, 0, 0, 1, 1);
        int torn = tornThere(x, LINE, 0, 50, 10, 50, 20, 50);
        refused(x, "1", x.plainer(-1, -1), 1);
        refused(x, "1", x.plainer(4, 0), 1);
        refused(x, "2 OPEN", x.plainer(open, -1), 2);
        refused(x, "3 POINT", x.plainer(point, -1), 3);
        refused(x, "3 HOUSE", x.plainer(house, 5), 3);
        refused(x, "4 before 5", x.plainer(torn, -1), 4);
        refused(x, "5", x.plainer(torn, 0), 5);
        x.drop(house);
        refused(x, "2 GONE", x.plainer(house, 5), 2);
    }

    private static void smooth() {
        promise = "promise 7";
        ScaleShop x = new ScaleShop();
        int line = there(x, LINE, 0, 0, 20, 0, 30, 7, 50, 0);
        granted(x, "smooth", x.smooth(line));
        row(x, "line", line, 0, 0, 17, 1, 32, 3, 50, 0);
        due("step", x.step(1, 0), 2);
        due("its feature", x.step(1, 1), line);
        int area = there(x, AREA, 100, 100, 200, 100, 200, 200, 100, 200);
        granted(x, "smooth of an AREA", x.smooth(area));
        row(x, "area", area, 125, 125, 175, 125, 175, 175, 125, 175);
        x.undo();
        int corner = there(x, POINT, 110, 110);
        refused(x, "who is inside would come out", x.smooth(area), 7);
        row(x, "unchanged", area, 100, 100, 200, 100, 200, 200, 100, 200);
        x.drop(corner);
        int outside = there(x, LINE, 90, 150, 90, 160);
        granted(x, "nobody near", x.smooth(area));
        due("outside does not matter", x.meets(area, outside), false);
    }

    private static void smoothRefusals() {
        promise = "promise 7";
        ScaleShop x = new ScaleShop();
        int point = there(x, POINT, 500, 500);
        int house = house(x, 0, 0, 5, 5);
        int open = open(x, LINE, 0, 0, 1, 1);
        int torn = tornThere(x, LINE, 0, 50, 10, 50, 20, 50);
        int two = there(x, LINE, 0, 60, 10, 60);
        int even = there(x, LINE, 0, 70, 10, 70, 20, 70);
        refused(x, "1", x.smooth(-1), 1);
        refused(x, "1", x.smooth(6), 1);
        refused(x, "2", x.smooth(open), 2);
        refused(x, "3", x.smooth(point), 3);
        refused(x, "3", x.smooth(house), 3);
        refused(x, "5", x.smooth(torn), 5);
        refused(x, "8 two corners", x.smooth(two), 8);
        refused(x, "8 straight", x.smooth(even), 8);
        due("no step", x.count(5), 0);
        // Both places between the ends would become alike.
        int tiny = there(x, LINE, 100, 100, 100, 101, 101, 101, 101, 100);
        refused(x, "7 not SIMPLE then", x.smooth(tiny), 7);
        int arch = there(x, LINE, 200, 200, 210, 220, 220, 200);
        there(x, POINT, 210, 215);
        refused(x, "7 SWEPT", x.smooth(arch), 7);
        int other = there(x, LINE, 300, 200, 310, 220, 320, 200);
        there(x, LINE, 305, 215, 315, 215);
        refused(x, "7 a meeting would end", x.smooth(other), 7);
        due("refusals by 7", x.count(7), 3);
    }

    private static void shiftLines() {
        promise = "promise 8";
        ScaleShop x = new ScaleShop();
        int line = there(x, LINE, 0, 100, 10, 100, 20, 100, 30, 100, 40, 100, 50, 100);
        granted(x, "one corner", x.shift(line, 2, 3, -7, 0));
        row(x, "one", line, 0, 100, 10, 100, 23, 93, 30, 100, 40, 100, 50, 100);
        x.undo();
        granted(x, "with neighbours", x.shift(line, 2, 5, -7, 2));
        // 5 * 2 / 3 = 3, 5 / 3 = 1; -14 / 3 = -4, -7 / 3 = -2, cut towards 0; the end stays.
        row(x, "neighbours", line, 0, 100, 13, 96, 25, 93, 33, 96, 41, 98, 50, 100);
        x.undo();
        granted(x, "an end pulls", x.shift(line, 0, 0, 10, 1));
        row(x, "end", line, 0, 100, 10, 105, 20, 100, 30, 100, 40, 100, 50, 100);
        x.undo();
        refused(x, "an end alone", x.shift(line, 0, 5, 5, 0), 8);
        refused(x, "nothing", x.shift(line, 2, 0, 0, 3), 8);
        granted(x, "the greatest", x.shift(line, 3, 0, 200, 20));
        due("y", x.at(line, 3, 1), 300);
        due("which", x.step(1, 0), 3);
    }

    private static void shiftAreas() {
        promise = "promise 8";
        ScaleShop x = new ScaleShop();
        int area = there(x, AREA, 100, 100, 200, 100, 200, 200, 100, 200);
        granted(x, "the nearer way round", x.shift(area, 0, -30, 0, 2));
        row(x, "area", area, 70, 100, 180, 100, 190, 200, 80, 200);
        x.undo();
        granted(x, "the last one", x.shift(area, 3, 0, 30, 1));
        row(x, "last", area, 100, 115, 200, 100, 200, 215, 100, 230);
        x.undo();
        granted(x, "far round", x.shift(area, 1, 21, 0, 20));
        row(x, "round", area, 120, 100, 221, 100, 220, 200, 119, 200);
    }

    private static void shiftPoints() {
        promise = "promise 8";
        ScaleShop x = new ScaleShop();
        int point = there(x, POINT, 10, 10);
        int line = there(x, LINE, 20, 0, 20, 20);
        granted(x, "before the line", x.shift(point, 0, 9, 0, 20));
        row(x, "point", point, 19, 10);
        refused(x, "onto the line", x.shift(point, 0, 1, 0, 0), 7);
        refused(x, "over the line", x.shift(point, 0, 2, 0, 0), 7);
        granted(x, "round the line", x.shift(point, 0, 0, 11, 0));
        granted(x, "over its end", x.shift(point, 0, 10, 0, 0));
        row(x, "beyond", point, 29, 21);
        refused(x, "off the sheet", x.shift(point, 0, 0, -22, 0), 7);
        refused(x, "nothing", x.shift(point, 0, 0, 0, 0), 8);
        refused(x, "no corner 1", x.shift(point, 1, 1, 1, 0), 1);
        int onLine = there(x, POINT, 20, 5);
        refused(x, "along the line", x.shift(onLine, 0, 0, 5, 0), 7);
        refused(x, "off the line", x.shift(onLine, 0, 5, 0, 0), 7);
        refused(x, "staying on it", x.shift(onLine, 0, 0, 0, 0), 8);
        int[][] ways = {{1, 0}, {-1, 0}, {0, 1}, {0, -1}, {1, 1}, {-1, 1}, {1, -1}, {-1, -1}};
        for (int[] way : ways) {
            ScaleShop y = new ScaleShop();
            int end = there(y, POINT, 500, 500);
            int ray = there(y, LINE, 500, 500, 500 + 50 * way[0], 500 + 50 * way[1]);
            due("they meet", y.meets(end, ray), true);
            refused(y, "staying at an end", y.shift(end, 0, 0, 0, 0), 8);
            refused(y, "from an end along", y.shift(end, 0, 10 * way[0], 10 * way[1], 0), 7);
            refused(y, "from an end away", y.shift(end, 0, -10 * way[0], -10 * way[1], 0), 7);
            int back = there(y, LINE, 500 - 50 * way[0], 500 - 50 * way[1], 500, 500);
            due("end and beginning", y.meets(back, ray), true);
            due("beginning and end", y.meets(ray, back), true);
            int fan = there(y, LINE, 500, 500, 500 - 30 * way[0] + 10 * way[1], 500 - 30 * way[1] + 10 * way[0]);
            due("both beginnings", y.meets(fan, ray), true);
            due("both beginnings", y.meets(ray, fan), true);
        }
        int ring = there(x, AREA, 100, 100, 110, 100, 110, 110, 100, 110);
        int inner = there(x, POINT, 105, 105);
        refused(x, "out of a ring", x.shift(inner, 0, 20, 0, 0), 7);
        granted(x, "within a ring", x.shift(inner, 0, 4, 4, 0));
        due("inside", x.inside(109, 109, ring), 1);
        x.drop(line);
        granted(x, "a GONE one hinders nobody", x.shift(onLine, 0, 0, 6, 0));
        int hill = there(x, LINE, 200, 200, 210, 210, 220, 200);
        int low = there(x, POINT, 210, 205);
        refused(x, "through a corner", x.shift(low, 0, 0, 10, 0), 7);
        due("meets", x.meets(hill, low), false);
    }

    private static void shiftHouses() {
        promise = "promise 8";
        ScaleShop x = new ScaleShop();
        int house = house(x, 10, 10, 20, 20);
        granted(x, "all corners", x.shift(house, 2, 5, -3, 0));
        row(x, "house", house, 15, 7, 25, 7, 25, 17, 15, 17);
        int point = there(x, POINT, 40, 12);
        refused(x, "over a point", x.shift(house, 0, 100, 0, 0), 7);
        granted(x, "past a point", x.shift(house, 0, 100, 100, 0));
        due("not inside", x.inside(40, 12, house), 0);
        x.undo();
        x.drop(point);
        granted(x, "none in the way", x.shift(house, 0, 100, 0, 0));
        int area = there(x, AREA, 300, 300, 400, 300, 400, 400, 300, 400);
        int inner = house(x, 320, 320, 330, 330);
        granted(x, "within an area", x.shift(inner, 0, 50, 0, 0));
        refused(x, "out of it", x.shift(inner, 0, 100, 0, 0), 7);
        refused(x, "the area away from it", x.shift(area, 0, 200, 200, 20), 7);
        refused(x, "off the sheet", x.shift(house, 0, 0, -50, 0), 7);
    }

    private static void shiftSweeps() {
        promise = "SWEPT";
        ScaleShop x = new ScaleShop();
        int line = there(x, LINE, 0, 100, 50, 100, 100, 100);
        int point = there(x, POINT, 50, 110);
        refused(x, "the point lies in the triangle", x.shift(line, 1, 0, 20, 0), 7);
        refused(x, "the point lies at the new corner", x.shift(line, 1, 0, 10, 0), 7);
        granted(x, "short of the point", x.shift(line, 1, 0, 9, 0));
        x.undo();
        x.drop(point);
        int atEnd = there(x, LINE, 0, 100, 0, 300);
        granted(x, "a corner at the end that stays", x.shift(line, 1, 0, 20, 0));
        x.undo();
        int atCorner = there(x, POINT, 50, 100);
        refused(x, "a corner at the corner that moves", x.shift(line, 1, 0, 20, 0), 7);
        x.drop(atCorner);
        int onEdge = there(x, LINE, 25, 100, 25, 0);
        refused(x, "a corner on the edge that moves", x.shift(line, 1, 0, 20, 0), 7);
        refused(x, "even if both meet then", x.shift(line, 1, 0, -20, 0), 7);
        x.drop(onEdge);
        int crossing = there(x, LINE, 25, 0, 25, 300);
        granted(x, "one that crosses, its corners far away", x.shift(line, 1, 0, 20, 0));
        x.undo();
        x.drop(crossing);
        x.drop(atEnd);
        int longer = there(x, LINE, 200, 100, 250, 100, 300, 100, 350, 100);
        there(x, POINT, 325, 100);
        granted(x, "a corner on an edge that stays", x.shift(longer, 1, 0, 20, 0));
        refused(x, "not on one that does not", x.shift(longer, 2, 0, 20, 0), 7);
        int flat = there(x, LINE, 400, 100, 410, 100, 450, 100);
        granted(x, "along itself", x.shift(flat, 1, 20, 0, 0));
        there(x, LINE, 420, 100, 420, 90);
        refused(x, "a triangle without area sweeps its longest edge", x.shift(flat, 1, -20, 0, 0), 7);
        refused(x, "even if it does not come so far", x.shift(flat, 1, -5, 0, 0), 7);
    }

    private static void shiftRefusals() {
        promise = "promise 8";
        ScaleShop x = new ScaleShop();
        int line = there(x, LINE, 0, 0, 10, 0, 20, 0);
        int open = open(x, LINE, 0, 50, 10, 50);
        int torn = tornThere(x, LINE, 0, 90, 10, 90);
        refused(x, "1", x.shift(-1, 0, 0, 0, 0), 1);
        refused(x, "1", x.shift(3, 0, 0, 0, 0), 1);
        refused(x, "1 corner -1", x.shift(line, -1, 1, 1, 0), 1);
        refused(x, "1 corner 3, before 4", x.shift(line, 3, 999, 1, 0), 1);
        refused(x, "1 before 2", x.shift(open, 2, 1, 1, 0), 1);
        refused(x, "2 before 4", x.shift(open, 1, 999, 1, 0), 2);
        refused(x, "4 dx", x.shift(line, 1, 201, 0, 0), 4);
        refused(x, "4 dx", x.shift(line, 1, -201, 0, 0), 4);
        refused(x, "4 dy", x.shift(line, 1, 0, 201, 0), 4);
        refused(x, "4 dy", x.shift(line, 1, 0, -201, 0), 4);
        refused(x, "4 n", x.shift(line, 1, 0, 5, -1), 4);
        refused(x, "4 n", x.shift(line, 1, 0, 5, 21), 4);
        refused(x, "4 before 5", x.shift(torn, 0, 0, 5, 21), 4);
        refused(x, "5", x.shift(torn, 0, 0, 5, 0), 5);
        refused(x, "7 off the sheet", x.shift(line, 1, 0, -1, 0), 7);
        refused(x, "7 onto an end", x.shift(line, 1, 10, 0, 0), 7);
        refused(x, "7 beyond an end", x.shift(line, 1, 11, 0, 0), 7);
        x.drop(line);
        refused(x, "2 GONE", x.shift(line, 1, 0, 5, 0), 2);
        due("refusals by 7", x.count(7), 3);
    }

    private static void grow() {
        promise = "promise 9";
        ScaleShop x = new ScaleShop();
        int house = house(x, 10, 10, 20, 15);
        granted(x, "grow", x.grow(house));
        row(x, "house", house, 10, 10, 30, 10, 30, 20, 10, 20);
        due("which", x.step(1, 0), 4);
        due("its feature", x.step(1, 1), house);
        int back = there(x, HOUSE, 100, 100, 90, 100, 90, 95, 100, 95);
        granted(x, "the other way", x.grow(back));
        row(x, "back", back, 100, 100, 80, 100, 80, 90, 100, 90);
        granted(x, "again", x.grow(back));
        row(x, "again", back, 100, 100, 60, 100, 60, 80, 100, 80);
        x.undo();
        row(x, "undone", back, 100, 100, 80, 100, 80, 90, 100, 90);
    }

    private static void growRefusals() {
        promise = "promise 9";
        ScaleShop x = new ScaleShop();
        int house = house(x, 10, 10, 20, 20);
        int area = there(x, AREA, 500, 500, 510, 500, 510, 510);
        int open = open(x, HOUSE, 0, 0);
        int torn = tornThere(x, HOUSE, 100, 0, 110, 0, 110, 10, 100, 10);
        refused(x, "1", x.grow(-1), 1);
        refused(x, "1", x.grow(4), 1);
        refused(x, "2", x.grow(open), 2);
        refused(x, "3", x.grow(area), 3);
        refused(x, "5", x.grow(torn), 5);
        int near = there(x, POINT, 25, 25);
        refused(x, "7 over a point", x.grow(house), 7);
        x.drop(near);
        int beside = there(x, LINE, 25, 0, 25, 100);
        refused(x, "7 into a line", x.grow(house), 7);
        x.drop(beside);
        int within = there(x, POINT, 15, 15);
        granted(x, "who is inside stays there", x.grow(house));
        x.undo();
        x.drop(within);
        int atCorner = there(x, POINT, 20, 10);
        refused(x, "7 a meeting, and swept", x.grow(house), 7);
        x.drop(atCorner);
        int edge = house(x, 600, 600, 801, 700);
        refused(x, "7 off the sheet", x.grow(edge), 7);
        granted(x, "8 never", x.grow(house));
        x.drop(house);
        refused(x, "2 GONE", x.grow(house), 2);
    }

    private static void square() {
        promise = "promise 10";
        ScaleShop x = new ScaleShop();
        int area = there(x, AREA, 20, 20, 1, 20, 0, 0, 20, 0);
        refused(x, "too much", x.square(area, 19), 4);
        granted(x, "just enough", x.square(area, 20));
        row(x, "box", area, 0, 0, 20, 0, 20, 20, 0, 20);
        due("a HOUSE", x.told(area, 0), HOUSE);
        due("which", x.step(1, 0), 5);
        refused(x, "a HOUSE is no AREA", x.square(area, 100), 3);
        granted(x, "it may grow", x.grow(area));
        x.undo();
        x.undo();
        due("an AREA again", x.told(area, 0), AREA);
        row(x, "undone", area, 20, 20, 1, 20, 0, 0, 20, 0);
        x.redo();
        due("a HOUSE again", x.told(area, 0), HOUSE);
        int box = there(x, AREA, 100, 100, 100, 110, 110, 110, 110, 100);
        granted(x, "a box, nothing more", x.square(box, 0));
        row(x, "turned", box, 100, 100, 110, 100, 110, 110, 100, 110);
    }

    private static void squareRefusals() {
        promise = "promise 10";
        ScaleShop x = new ScaleShop();
        int area = there(x, AREA, 0, 0, 20, 0, 0, 20);
        int house = house(x, 100, 100, 110, 110);
        int open = open(x, AREA, 0, 0);
        int torn = tornThere(x, AREA, 200, 0, 210, 0, 210, 10);
        refused(x, "1", x.square(-1, 0), 1);
        refused(x, "1", x.square(4, 0), 1);
        refused(x, "2", x.square(open, -1), 2);
        refused(x, "3", x.square(house, -1), 3);
        refused(x, "4 below 0", x.square(area, -1), 4);
        refused(x, "4 before 5", x.square(torn, -1), 4);
        refused(x, "5", x.square(torn, 0), 5);
        int point = there(x, POINT, 15, 15);
        refused(x, "4 before 7", x.square(area, 0), 4);
        refused(x, "7 somebody would come inside", x.square(area, 1000), 7);
        x.drop(point);
        int line = there(x, LINE, 15, 30, 15, 12);
        refused(x, "7 somebody would meet", x.square(area, 1000), 7);
        x.drop(line);
        // No CORNER is SWEPT by SQUARE: this one lies on the slanted edge that goes, but both meet before and after.
        int across = there(x, LINE, 10, 10, 30, 30);
        refused(x, "7 a corner of the set would come inside", x.square(area, 1000), 7);
        x.drop(across);
        int cross = there(x, LINE, 0, 0, 30, 30);
        granted(x, "meets as before, nobody swept", x.square(area, 1000));
        due("they meet", x.meets(area, cross), true);
    }

    private static void join() {
        promise = "promise 11";
        ScaleShop x = new ScaleShop();
        int first = x.feature(HOUSE, 3, 7, 5);
        x.corner(first, 0, 0);
        x.corner(first, 10, 0);
        x.corner(first, 10, 10);
        x.corner(first, 0, 10);
        x.done(first);
        int second = house(x, 13, 14, 20, 20);
        refused(x, "their DISTANCE is 5", x.join(first, second, 4), 4);
        due("join", x.join(first, second, 5), 2);
        due("status", x.status(), 0);
        row(x, "box", 2, 0, 0, 20, 0, 20, 20, 0, 20);
        due("rank", x.told(2, 1), 3);
        due("width", x.told(2, 2), 7);
        due("town", x.told(2, 3), 5);
        due("kind", x.told(2, 0), HOUSE);
        due("THERE", x.told(2, 5), 1);
        due("GONE", x.told(first, 5), 2);
        due("GONE", x.told(second, 5), 2);
        due("by step", x.told(second, 7), 1);
        due("by step", x.told(first, 7), 1);
        due("JOINED to", x.told(second, 10), 2);
        due("JOINED to", x.told(first, 10), 2);
        due("of", x.told(2, 8), first);
        due("of", x.told(2, 9), second);
        int meeting = house(x, 15, 15, 30, 30);
        due("the second ahead, meeting", x.join(meeting, 2, 0), 4);
        row(x, "both", 4, 0, 0, 30, 0, 30, 30, 0, 30);
        int within = house(x, 5, 5, 6, 6);
        refused(x, "one within the other, by their sets", x.join(within, 4, 4), 4);
        due("one within the other", x.join(within, 4, 5), 6);
        due("went", x.step(3, 2), 2);
        due("first", x.step(3, 1), within);
    }

    private static void joinTakenBack() {
        promise = "promise 11";
        ScaleShop x = new ScaleShop();
        house(x, 0, 0, 10, 10);
        house(x, 12, 0, 20, 10);
        house(x, 22, 0, 30, 10);
        due("join", x.join(0, 1, 2), 3);
        due("join of a joined one", x.join(3, 2, 2), 4);
        due("undo", x.undo(), 2);
        due("no feature 4", x.told(4, 0), NONE);
        due("undo", x.undo(), 1);
        due("count", x.count(0), 3);
        due("redo", x.redo(), 1);
        due("redo", x.redo(), 2);
        due("feature 4 is here", x.told(4, 8), 3);
        x.undo();
        x.undo();
        due("the number is free", x.join(1, 2, 2), 3);
        row(x, "another", 3, 12, 0, 30, 0, 30, 10, 12, 10);
        due("nothing to redo", x.count(6), 0);
        x.undo();
        due("free for feature()", x.feature(POINT, 0, 0, 0), 3);
        refused(x, "forgotten", x.redo(), 8);
    }

    private static void joinRefusals() {
        promise = "promise 11";
        ScaleShop x = new ScaleShop();
        int a = house(x, 0, 0, 10, 10);
        int b = house(x, 20, 0, 30, 10);
        int area = there(x, AREA, 500, 500, 510, 500, 510, 510);
        int open = open(x, HOUSE, 0, 0);
        int torn = tornThere(x, HOUSE, 100, 0, 110, 0, 110, 10, 100, 10);
        refused(x, "1 first", x.join(-1, a, 0), 1);
        refused(x, "1 second", x.join(a, 5, 0), 1);
        refused(x, "1 before 2", x.join(open, 5, 0), 1);
        refused(x, "2 first", x.join(open, area, 0), 2);
        refused(x, "2 second", x.join(area, open, 0), 2);
        refused(x, "3 first", x.join(area, a, -1), 3);
        refused(x, "3 second", x.join(a, area, -1), 3);
        refused(x, "4 gap", x.join(a, b, -1), 4);
        refused(x, "4 gap", x.join(a, b, 1001), 4);
        refused(x, "4 before 5", x.join(a, torn, -1), 4);
        refused(x, "5", x.join(a, torn, 1000), 5);
        refused(x, "5", x.join(torn, a, 1000), 5);
        refused(x, "8 both are one", x.join(a, a, 0), 8);
        int between = there(x, POINT, 15, 5);
        refused(x, "7 inside the box", x.join(a, b, 10), 7);
        x.drop(between);
        int touching = there(x, POINT, 15, 10);
        refused(x, "7 on the box", x.join(a, b, 10), 7);
        x.tear(touching);
        int through = there(x, LINE, 5, 5, 5, 6);
        refused(x, "7 inside one of both", x.join(a, b, 10), 7);
        refused(x, "7 before 8", x.join(a, a, 10), 7);
        x.drop(through);
        int around = there(x, AREA, 0, 11, 0, 50, 50, 50, 50, 0, 40, 0, 40, 11);
        due("beside", x.join(a, b, 10), 9);
        due("TORN ones and those around hinder nobody", x.status(), 0);
        due("around", x.meets(9, around), false);
        ScaleShop y = new ScaleShop();
        house(y, 0, 0, 1, 1);
        house(y, 2, 0, 3, 1);
        for (int i = 2; i < 200; i++) {
            y.feature(POINT, 0, 0, 0);
        }
        refused(y, "8 no room", y.join(0, 1, 5), 8);
        due("both are THERE", y.count(1), 2);
    }

    private static void drop() {
        promise = "promise 12";
        ScaleShop x = new ScaleShop();
        int line = there(x, LINE, 0, 0, 10, 0);
        int open = open(x, LINE, 0, 0);
        int torn = tornThere(x, LINE, 0, 5, 10, 5);
        granted(x, "drop", x.drop(line));
        due("GONE", x.told(line, 5), 2);
        due("by", x.told(line, 7), 1);
        due("which", x.step(1, 0), 7);
        due("first", x.step(1, 1), line);
        due("went", x.step(1, 2), 1);
        refused(x, "2 again", x.drop(line), 2);
        refused(x, "2 OPEN", x.drop(open), 2);
        refused(x, "5", x.drop(torn), 5);
        refused(x, "1", x.drop(-1), 1);
        refused(x, "1", x.drop(3), 1);
        x.undo();
        due("THERE again", x.told(line, 5), 1);
        due("by none", x.told(line, 7), 0);
    }

    private static void few() {
        promise = "promise 13";
        ScaleShop x = new ScaleShop();
        int small = ranked(x, HOUSE, 0, 1, 0, 0, 2, 0, 2, 2, 0, 2);
        int alike = ranked(x, HOUSE, 0, 1, 10, 0, 12, 0, 12, 2, 10, 2);
        int great = ranked(x, HOUSE, 0, 1, 20, 0, 29, 0, 29, 9, 20, 9);
        int elsewhere = ranked(x, HOUSE, 0, 2, 40, 0, 42, 0, 42, 2, 40, 2);
        int area = ranked(x, AREA, 0, 1, 60, 0, 62, 0, 62, 2);
        refused(x, "4 least", x.few(-1, 0), 4);
        refused(x, "8 least 0", x.few(0, 0), 8);
        refused(x, "4 many", x.few(0, -1), 4);
        refused(x, "4 many", x.few(0, 201), 4);
        refused(x, "8 none below", x.few(8, 0), 8);
        refused(x, "8 all are among the greatest", x.few(1000, 200), 8);
        due("below, not equal", x.few(9, 2), 1);
        due("of alike ones the lower number stays", x.told(alike, 5), 2);
        due("the lower one", x.told(small, 5), 1);
        due("by its town alone", x.told(elsewhere, 5), 1);
        due("which", x.step(1, 0), 8);
        due("no feature", x.step(1, 1), NONE);
        due("went", x.step(1, 2), 1);
        x.undo();
        due("back", x.told(alike, 5), 1);
        due("both small ones, and the one elsewhere", x.few(9, 0), 3);
        due("an AREA is none", x.told(area, 5), 1);
        due("one STEP", x.undo(), 1);
        due("all back", x.count(1), 5);
        due("one of each town stays", x.few(1000, 1), 2);
        due("the greatest one", x.told(great, 5), 1);
        due("by step", x.told(small, 7), 1);
        x.undo();
        x.tear(great);
        due("a TORN one is none of the greatest", x.few(1000, 1), 1);
        due("so this is", x.told(small, 5), 1);
    }

    private static void choose() {
        promise = "promise 14";
        ScaleShop x = new ScaleShop();
        refused(x, "8 no roads", x.choose(), 8);
        int near = there(x, ROAD, 0, 0, 10, 0);
        int round = there(x, ROAD, 0, 0, 0, 5, 10, 5, 10, 0);
        int twin = there(x, ROAD, 10, 0, 5, 1, 0, 0);
        int river = there(x, RIVER, 0, 0, 10, 0);
        due("the two longer ones", x.choose(), 2);
        due("stays", x.told(near, 5), 1);
        due("goes", x.told(round, 5), 2);
        due("goes", x.told(twin, 5), 2);
        due("a RIVER is no ROAD", x.told(river, 5), 1);
        due("which", x.step(1, 0), 9);
        due("went", x.step(1, 2), 2);
        due("by", x.told(round, 7), 1);
        refused(x, "8 none more", x.choose(), 8);
        x.undo();
        due("back", x.count(1), 4);
        x.smooth(twin);
        x.drop(river);
        due("again", x.choose(), 2);
        due("by", x.told(round, 7), 3);
        x.undo();
        x.tear(near);
        due("a TORN one joins nobody", x.choose(), 1);
        due("the longer one", x.told(round, 5), 2);

        ScaleShop y = new ScaleShop();
        int heavy = ranked(y, ROAD, 2, 0, 0, 0, 10, 0);
        int light = ranked(y, ROAD, 0, 0, 0, 0, 5, 10, 10, 0);
        due("by rank and length: 30 of both, then by number", y.choose(), 1);
        due("the higher number", y.told(light, 5), 2);
        y.undo();
        int lighter = ranked(y, ROAD, 1, 0, 10, 0, 0, 0);
        due("20 is less", y.choose(), 2);
        due("stays", y.told(lighter, 5), 1);
        due("goes", y.told(heavy, 5), 2);
        ScaleShop w = new ScaleShop();
        int dear = ranked(w, ROAD, 2, 0, 0, 0, 11, 0);
        int longer = ranked(w, ROAD, 0, 0, 0, 0, 0, 9, 11, 9, 11, 0);
        due("33 against 29", w.choose(), 1);
        due("the heavier one", w.told(dear, 5), 2);
        due("the lighter one", w.told(longer, 5), 1);
        ScaleShop z = new ScaleShop();
        there(z, ROAD, 0, 0, 10, 0);
        there(z, ROAD, 20, 0, 10, 0);
        there(z, ROAD, 20, 0, 30, 0);
        int closing = there(z, ROAD, 30, 0, 30, 30, 0, 30, 0, 0);
        int crossing = there(z, ROAD, 15, 10, 15, -0);
        due("a ring of roads", z.choose(), 1);
        due("the longest one", z.told(closing, 5), 2);
        due("crossings do not join", z.told(crossing, 5), 1);
    }

    private static void run() {
        promise = "promise 15";
        ScaleShop x = new ScaleShop();
        refused(x, "8 empty", x.run(0), 8);
        int line = there(x, LINE, 0, 0, 10, 1, 20, 0);
        int area = there(x, AREA, 100, 100, 110, 99, 120, 100, 120, 120, 100, 120);
        int house = house(x, 200, 200, 210, 210);
        refused(x, "4", x.run(-1), 4);
        refused(x, "8 none", x.run(19), 8);
        due("both", x.run(20), 2);
        row(x, "line", line, 0, 0, 20, 0);
        row(x, "area", area, 100, 100, 120, 100, 120, 120, 100, 120);
        due("no HOUSE", x.told(house, 4), 4);
        due("which", x.step(1, 0), 10);
        due("no feature", x.step(1, 1), NONE);
        due("went", x.step(1, 2), 2);
        due("far", x.far(line, 0), 1);
        due("one STEP", x.undo(), 1);
        row(x, "line back", line, 0, 0, 10, 1, 20, 0);
        due("area back", x.told(area, 4), 5);
        due("far back", x.far(line, 0), 0);
        x.tear(line);
        due("a TORN one may not be", x.run(20), 1);

        ScaleShop y = new ScaleShop();
        // The arch cannot go while the peak of the one below stands in it; that goes later in the first pass.
        int upper = there(y, LINE, 0, 0, 20, 20, 40, 0);
        int lower = there(y, LINE, 10, 1, 20, 10, 30, 1);
        refused(y, "alone it cannot", y.plainer(upper, 2000), 8);
        due("the upper one's edge would meet", y.run(2000), 1);
        row(y, "lower", lower, 10, 1, 30, 1);
        ScaleShop z = new ScaleShop();
        int over = there(z, LINE, 10, 10, 20, 20, 30, 10);
        int under = there(z, LINE, 0, 0, 20, 12, 40, 0);
        due("again and again", z.run(2000), 2);
        row(z, "over", over, 10, 10, 30, 10);
        row(z, "under", under, 0, 0, 40, 0);
    }

    private static void undo() {
        promise = "promise 16";
        ScaleShop x = new ScaleShop();
        int line = there(x, LINE, 0, 100, 10, 110, 20, 100, 30, 105, 40, 100);
        refused(x, "8", x.undo(), 8);
        x.plainer(line, 100);
        x.smooth(line);
        x.shift(line, 1, 3, 3, 0);
        due("steps", x.count(5), 3);
        due("undo", x.undo(), 3);
        due("undo", x.undo(), 2);
        due("undo", x.undo(), 1);
        row(x, "all undone", line, 0, 100, 10, 110, 20, 100, 30, 105, 40, 100);
        refused(x, "8 no more", x.undo(), 8);
        due("may be done again", x.count(6), 3);
        due("another STEP takes the number", x.drop(line), true);
        due("step", x.step(1, 0), 7);
        due("forgotten", x.step(2, 0), NONE);
        due("undo", x.undo(), 1);
        due("status", x.status(), 0);
    }

    private static void undoFence() {
        promise = "promise 16";
        ScaleShop x = new ScaleShop();
        int line = there(x, LINE, 0, 100, 10, 110, 20, 100, 30, 105, 40, 100);
        int open = open(x, POINT);
        x.plainer(line, 100);
        x.corner(open, 5, 5);
        due("corner() is no fence", x.undo(), 1);
        due("redo", x.redo(), 1);
        due("nor does it go with a STEP", x.told(open, 4), 1);
        x.done(open);
        refused(x, "done() is", x.undo(), 8);
        x.smooth(line);
        due("since then", x.undo(), 2);
        refused(x, "not before", x.undo(), 8);
        x.redo();
        x.feature(POINT, 0, 0, 0);
        refused(x, "feature() is", x.undo(), 8);
        x.smooth(line);
        x.feature(9, 0, 0, 0);
        x.done(2);
        due("one that was refused is none", x.undo(), 3);
        x.redo();
        x.tear(2);
        refused(x, "tear() is", x.undo(), 8);
        due("the numbers go on", x.drop(line), true);
        due("by", x.told(line, 7), 4);
        due("steps", x.count(5), 4);
    }

    private static void redo() {
        promise = "promise 17";
        ScaleShop x = new ScaleShop();
        int line = there(x, LINE, 0, 100, 10, 110, 20, 100, 30, 105, 40, 100);
        int open = open(x, POINT);
        refused(x, "8", x.redo(), 8);
        x.plainer(line, 100);
        x.smooth(line);
        x.undo();
        x.undo();
        refused(x, "8 no such", x.undo(), 8);
        due("redo", x.redo(), 1);
        due("status", x.status(), 0);
        due("redo", x.redo(), 2);
        refused(x, "8 no more", x.redo(), 8);
        x.undo();
        x.corner(open, 1, 1);
        x.smooth(-1);
        x.few(0, 0);
        due("corner() and what is refused forget nothing", x.redo(), 2);
        x.undo();
        x.drop(line);
        refused(x, "a STEP forgets", x.redo(), 8);
        x.undo();
        x.done(open);
        refused(x, "done() forgets", x.redo(), 8);
        x.drop(line);
        x.undo();
        x.tear(open);
        refused(x, "tear() forgets", x.redo(), 8);
        x.drop(line);
        x.undo();
        x.feature(POINT, 0, 0, 0);
        refused(x, "feature() forgets", x.redo(), 8);
        due("step forgotten", x.step(2, 0), NONE);
    }

    private static void meets() {
        promise = "promise 18";
        ScaleShop x = new ScaleShop();
        int a = there(x, LINE, 0, 0, 10, 10);
        int b = there(x, LINE, 0, 10, 10, 0);
        int c = there(x, POINT, 3, 3);
        int d = there(x, POINT, 3, 4);
        int e = there(x, LINE, 10, 10, 20, 10);
        int f = there(x, LINE, 15, 10, 30, 10);
        int ring = there(x, AREA, 100, 100, 200, 100, 150, 200);
        int inner = there(x, POINT, 150, 150);
        int last = there(x, POINT, 125, 150);
        due("crossing", x.meets(a, b), true);
        due("point on line", x.meets(c, a), true);
        due("point beside line", x.meets(a, d), false);
        due("ends", x.meets(a, e), true);
        due("overlapping", x.meets(f, e), true);
        due("apart", x.meets(b, f), false);
        due("inside is not meeting", x.meets(ring, inner), false);
        due("the last edge", x.meets(last, ring), true);
        due("itself", x.meets(ring, ring), true);
        due("a point itself", x.meets(d, d), true);
        due("no such", x.meets(a, -1), false);
        due("no such", x.meets(99, a), false);
        int open = open(x, POINT, 3, 3);
        due("OPEN", x.meets(open, a), false);
        due("OPEN itself", x.meets(open, open), false);
        x.drop(b);
        due("GONE", x.meets(a, b), false);
        x.tear(c);
        due("TORN", x.meets(a, c), false);
        due("TORN itself", x.meets(c, c), false);
    }

    private static void inside() {
        promise = "promise 19";
        ScaleShop x = new ScaleShop();
        int ring = there(x, AREA, 0, 0, 20, 0, 20, 20, 10, 10, 0, 20);
        due("inside", x.inside(5, 5, ring), 1);
        due("in the notch", x.inside(10, 15, ring), 0);
        due("level with a corner", x.inside(5, 10, ring), 1);
        due("left of it", x.inside(30, 10, ring), 0);
        due("a corner", x.inside(10, 10, ring), 2);
        due("an edge", x.inside(15, 15, ring), 2);
        due("the last edge", x.inside(0, 7, ring), 2);
        due("beyond an edge's end", x.inside(21, 0, ring), 0);
        due("no PLACE", x.inside(-1, 0, ring), NONE);
        due("no PLACE", x.inside(0, 1001, ring), NONE);
        due("no such", x.inside(5, 5, -1), NONE);
        due("no such", x.inside(5, 5, 1), NONE);
        int line = there(x, LINE, 0, 50, 9, 50);
        due("no RING", x.inside(5, 50, line), NONE);
        int open = open(x, HOUSE, 0, 0, 9, 0, 9, 9, 0, 9);
        due("OPEN", x.inside(5, 5, open), NONE);
        x.drop(ring);
        due("GONE", x.inside(5, 5, ring), NONE);
        x.undo();
        due("back", x.inside(5, 5, ring), 1);
        x.tear(ring);
        due("TORN", x.inside(5, 5, ring), NONE);
    }

    private static void side() {
        promise = "promise 20";
        ScaleShop x = new ScaleShop();
        int line = there(x, LINE, 10, 10, 20, 10, 20, 30);
        due("left", x.side(15, 11, line, 0), 1);
        due("right", x.side(15, 9, line, 0), -1);
        due("on its line", x.side(500, 10, line, 0), 0);
        due("left of the second", x.side(19, 0, line, 1), 1);
        due("right of the second", x.side(21, 0, line, 1), -1);
        due("no edge", x.side(0, 0, line, 2), 0);
        due("no edge", x.side(0, 0, line, -1), 0);
        due("no PLACE", x.side(15, -1, line, 0), 0);
        due("no PLACE", x.side(1001, 0, line, 0), 0);
        due("no such", x.side(0, 0, 1, 0), 0);
        due("no such", x.side(0, 0, -1, 0), 0);
        int ring = there(x, AREA, 100, 100, 110, 100, 105, 110);
        due("the last edge", x.side(105, 105, ring, 2), 1);
        due("outside the last edge", x.side(99, 105, ring, 2), -1);
        due("no edge of a ring", x.side(0, 0, ring, 3), 0);
        int point = there(x, POINT, 5, 5);
        due("a POINT has none", x.side(0, 1, point, 0), 0);
        int open = open(x, LINE);
        due("OPEN without corners", x.side(0, 1, open, 0), 0);
        x.corner(open, 300, 300);
        due("OPEN with one", x.side(0, 1, open, 0), 0);
        x.corner(open, 310, 300);
        due("OPEN with an edge", x.side(305, 301, open, 0), 1);
        x.drop(ring);
        due("GONE", x.side(105, 105, ring, 2), 1);
        x.tear(line);
        due("TORN", x.side(15, 11, line, 0), 0);
    }

    private static void near() {
        promise = "promise 21";
        ScaleShop x = new ScaleShop();
        int a = there(x, LINE, 0, 0, 10, 10, 20, 0);
        int p = there(x, POINT, 10, 5);
        int q = there(x, POINT, 24, 3);
        due("over", x.near(a, p, 0), 25);
        due("under", x.near(a, p, 1), 2);
        due("from a corner", x.near(q, a, 0), 25);
        due("whole", x.near(q, a, 1), 1);
        due("points", x.near(p, q, 0), 200);
        int bar = there(x, LINE, 30, 0, 40, 0);
        int beyond = there(x, POINT, 43, 4);
        due("beyond an end", x.near(bar, beyond, 0), 25);
        due("itself", x.near(a, a, 0), 0);
        due("itself", x.near(a, a, 1), 1);
        int b = there(x, LINE, 0, 10, 20, 10);
        due("meeting", x.near(a, b, 0), 0);
        due("meeting", x.near(b, a, 1), 1);
        int far = there(x, LINE, 999, 1000, 1000, 998);
        int slant = there(x, LINE, 0, 1000, 1000, 7);
        due("great numbers", x.near(slant, far, 0) > 0, true);
        due("what 2", x.near(a, p, 2), NONE);
        due("what -1", x.near(a, p, -1), NONE);
        due("no such", x.near(a, 99, 0), NONE);
        due("no such", x.near(-1, a, 0), NONE);
        int open = open(x, POINT, 0, 0);
        due("OPEN", x.near(a, open, 0), NONE);
        int ring = there(x, AREA, 500, 500, 510, 500, 510, 510, 500, 510);
        int inner = there(x, POINT, 503, 505);
        due("from inside", x.near(ring, inner, 0), 9);
        x.tear(inner);
        due("TORN", x.near(ring, inner, 0), NONE);
        x.drop(p);
        due("GONE", x.near(a, p, 0), NONE);
    }

    private static void clashes() {
        promise = "promise 22";
        ScaleShop x = new ScaleShop();
        wide(x, LINE, 4, 0, 0, 100, 0);
        wide(x, LINE, 5, 0, 5, 100, 5);
        due("5 is not less than 4 and a half", x.clashes(0), 0);
        due("5 is less than 5 and a half", x.clashes(1), 1);
        int third = wide(x, POINT, 6, 50, 10);
        due("5 is less than 5 and a half of the widths", x.clashes(0), 1);
        int fourth = wide(x, LINE, 100, 50, 0, 50, 3);
        due("who meets does not clash", x.clashes(0), 3);
        x.drop(fourth);
        due("GONE", x.clashes(0), 1);
        due("gap 200", x.clashes(200), 3);
        due("gap -1", x.clashes(-1), NONE);
        due("gap 201", x.clashes(201), NONE);
        x.tear(third);
        due("TORN", x.clashes(0), 0);
        ScaleShop y = new ScaleShop();
        wide(y, POINT, 0, 0, 0);
        wide(y, POINT, 0, 0, 7);
        due("just as far", y.clashes(7), 0);
        due("less", y.clashes(8), 1);
        due("tells only", y.status(), 0);
    }

    private static void clash() {
        promise = "promise 23";
        ScaleShop x = new ScaleShop();
        wide(x, POINT, 10, 0, 0);
        wide(x, POINT, 10, 100, 0);
        wide(x, POINT, 10, 105, 0);
        wide(x, POINT, 10, 5, 0);
        wide(x, POINT, 10, 100, 5);
        int[][] pairs = {{0, 3}, {1, 2}, {1, 4}, {2, 4}};
        due("clashes", x.clashes(0), pairs.length);
        for (int i = 0; i < pairs.length; i++) {
            due("lower of " + i, x.clash(0, i, 0), pairs[i][0]);
            due("higher of " + i, x.clash(0, i, 1), pairs[i][1]);
        }
        due("none", x.clash(0, 4, 0), NONE);
        due("none", x.clash(0, Integer.MAX_VALUE, 0), NONE);
        due("none", x.clash(0, -1, 0), NONE);
        due("what", x.clash(0, 0, 2), NONE);
        due("what", x.clash(0, 0, -1), NONE);
        due("gap", x.clash(-1, 0, 0), NONE);
        due("gap", x.clash(201, 0, 0), NONE);
        due("more with a gap", x.clash(200, 1, 1), 2);
    }

    private static void far() {
        promise = "promise 24";
        ScaleShop x = new ScaleShop();
        int line = there(x, LINE, 0, 0, 5, 1, 10, 0, 20, 6, 30, 2);
        due("none went", x.far(line, 0), 0);
        due("none went", x.far(line, 1), 1);
        x.plainer(line, 10);
        due("one", x.far(line, 0), 1);
        due("one", x.far(line, 1), 1);
        x.plainer(line, 1000);
        row(x, "two corners", line, 0, 0, 30, 2);
        // (20, 6) from the edge to (30, 2): (30 * 6 - 2 * 20) squared by 904 = 19600 by 904 = 2450 by 113.
        due("the greatest one", x.far(line, 0), 2450);
        due("the greatest one", x.far(line, 1), 113);
        x.undo();
        due("undone", x.far(line, 0), 1);
        x.undo();
        due("undone", x.far(line, 0), 0);
        x.run(1000);
        due("by run()", x.far(line, 0), 2450);
        due("what", x.far(line, 2), NONE);
        due("what", x.far(line, -1), NONE);
        due("no such", x.far(1, 0), NONE);
        due("no such", x.far(-1, 0), NONE);
        x.drop(line);
        due("GONE", x.far(line, 0), NONE);
        x.undo();
        int point = there(x, POINT, 500, 500);
        due("POINT", x.far(point, 1), 1);
        int area = there(x, AREA, 100, 100, 110, 99, 120, 100, 120, 120, 100, 120);
        x.plainer(area, 20);
        x.square(area, 0);
        x.grow(area);
        due("from the SET as it is now", x.far(area, 0), 1);
        x.shift(area, 0, 0, 20, 0);
        due("moved", x.far(area, 0), 441);
        int open = open(x, LINE, 0, 0);
        due("OPEN", x.far(open, 0), NONE);
        x.tear(area);
        due("TORN", x.far(area, 0), NONE);
    }

    private static void size() {
        promise = "promise 25";
        ScaleShop x = new ScaleShop();
        int left = there(x, AREA, 0, 0, 20, 0, 20, 20, 1, 20);
        int right = there(x, AREA, 100, 20, 120, 20, 120, 0, 100, 0);
        int line = there(x, BORDER, 0, 100, 10, 95, 5, 200);
        int point = there(x, POINT, 900, 900);
        int most = there(x, HOUSE, 0, 0, 1000, 0, 1000, 1000, 0, 1000);
        due("AREA2", x.size(left), 780);
        due("its sign away", x.size(right), 800);
        due("LINE", x.size(line), 125);
        due("POINT", x.size(point), 0);
        due("the greatest", x.size(most), 2000000);
        int open = open(x, LINE, 0, 0, 5, 5);
        due("OPEN", x.size(open), NONE);
        due("no such", x.size(-1), NONE);
        due("no such", x.size(6), NONE);
        x.tear(left);
        due("TORN", x.size(left), NONE);
        x.drop(line);
        due("GONE", x.size(line), NONE);
    }

    private static void at() {
        promise = "promise 26";
        ScaleShop x = new ScaleShop();
        int line = open(x, LINE, 3, 4, 5, 6);
        due("x while OPEN", x.at(line, 1, 0), 5);
        due("y while OPEN", x.at(line, 1, 1), 6);
        x.done(line);
        due("x", x.at(line, 0, 0), 3);
        due("y", x.at(line, 0, 1), 4);
        due("what", x.at(line, 0, 2), NONE);
        due("what", x.at(line, 0, -1), NONE);
        due("corner", x.at(line, 2, 0), NONE);
        due("corner", x.at(line, -1, 0), NONE);
        due("no such", x.at(1, 0, 0), NONE);
        due("no such", x.at(-1, 0, 0), NONE);
        x.drop(line);
        due("GONE", x.at(line, 1, 1), 6);
        x.undo();
        x.tear(line);
        due("TORN", x.at(line, 0, 0), NONE);
    }

    private static void told() {
        promise = "promise 27";
        ScaleShop x = new ScaleShop();
        int number = x.feature(BORDER, 8, 77, 6);
        int[] all = {BORDER, 8, 77, 6, 0, 0, 0, 0, NONE, NONE, NONE};
        for (int what = 0; what < all.length; what++) {
            due("what " + what, x.told(number, what), all[what]);
        }
        due("what 11", x.told(number, 11), NONE);
        due("what -1", x.told(number, -1), NONE);
        due("no such", x.told(1, 0), NONE);
        due("no such", x.told(-1, 0), NONE);
        x.corner(number, 0, 0);
        x.corner(number, 5, 0);
        due("corners", x.told(number, 4), 2);
        x.done(number);
        due("THERE", x.told(number, 5), 1);
        x.drop(number);
        due("GONE", x.told(number, 5), 2);
        due("corners of a GONE one", x.told(number, 4), 2);
        due("by", x.told(number, 7), 1);
        x.undo();
        x.tear(number);
        due("TORN", x.told(number, 6), 1);
        due("corners", x.told(number, 4), 0);
    }

    private static void step() {
        promise = "promise 28";
        ScaleShop x = new ScaleShop();
        int line = there(x, LINE, 0, 100, 10, 110, 20, 100, 30, 105, 40, 100);
        due("none", x.step(1, 0), NONE);
        x.plainer(line, 300);
        x.smooth(line);
        due("which", x.step(1, 0), 1);
        due("feature", x.step(1, 1), line);
        due("went", x.step(1, 2), 3);
        due("done", x.step(1, 3), 1);
        due("8, not done", x.step(2, 0), NONE);
        x.undo();
        x.plainer(line, 100);
        x.smooth(line);
        due("two", x.count(5), 2);
        x.undo();
        due("undone is told", x.step(2, 0), 2);
        due("undone", x.step(2, 3), 0);
        due("done", x.step(1, 3), 1);
        due("what 4", x.step(1, 4), NONE);
        due("what -1", x.step(1, -1), NONE);
        due("step 0", x.step(0, 0), NONE);
        due("step -1", x.step(-1, 0), NONE);
        due("step 3", x.step(3, 0), NONE);
        x.shift(line, 1, 1, 1, 0);
        due("another one", x.step(2, 0), 3);
        x.feature(POINT, 0, 0, 0);
        due("steps before a fence are told", x.step(2, 3), 1);
    }

    private static void count() {
        promise = "promise 29";
        ScaleShop x = new ScaleShop();
        int line = there(x, LINE, 0, 100, 10, 110, 20, 100);
        int point = there(x, POINT, 10, 105);
        int gone = there(x, POINT, 500, 500);
        open(x, AREA, 0, 0);
        int torn = tornThere(x, LINE, 0, 5, 10, 5);
        x.drop(gone);
        refused(x, "unlawful", x.shift(point, 0, 0, 10, 0), 7);
        due("FEATURES", x.count(0), 5);
        due("THERE", x.count(1), 3);
        due("GONE", x.count(2), 1);
        due("TORN", x.count(3), 1);
        due("CORNERS", x.count(4), 4);
        due("STEPS", x.count(5), 1);
        due("again", x.count(6), 0);
        due("by 7", x.count(7), 1);
        due("what 8", x.count(8), NONE);
        due("what -1", x.count(-1), NONE);
        x.undo();
        due("STEPS", x.count(5), 0);
        due("again", x.count(6), 1);
        due("GONE", x.count(2), 0);
        due("by 7 is not undone", x.count(7), 1);
        due("torn one", x.told(torn, 6), 1);
        x.drop(point);
        x.plainer(line, 1000);
        due("CORNERS", x.count(4), 3);
        due("again", x.count(6), 0);
    }

    private static void status() {
        promise = "promise 30";
        ScaleShop x = new ScaleShop();
        int line = there(x, LINE, 0, 100, 10, 110, 20, 100);
        due("done", x.status(), 0);
        x.drop(-1);
        due("refused", x.status(), 1);
        x.meets(0, 0);
        x.inside(-1, 0, 0);
        x.side(0, 0, 9, 9);
        x.near(0, 9, 0);
        x.clashes(-1);
        x.clash(0, 0, 0);
        x.far(9, 0);
        x.size(0);
        x.at(0, 0, 0);
        x.told(0, 0);
        x.step(9, 9);
        x.count(0);
        x.status();
        due("what tells leaves it", x.status(), 1);
        x.smooth(line);
        due("done", x.status(), 0);
        x.redo();
        due("refused", x.status(), 8);
        x.undo();
        due("done", x.status(), 0);
    }
}
