import java.util.ArrayList;
import java.util.Arrays;
import java.util.List;

/**
 * Each sentence of the document that names a boundary, in the document's order: at the boundary, and one beyond it on
 * each side. The sentence stands in front of what is not as due. No object is asked more than 512 times.
 */
public final class ScaleShopEdges {
    private static final int POINT = 0;
    private static final int LINE = 1;
    private static final int RIVER = 2;
    private static final int ROAD = 3;
    private static final int BORDER = 4;
    private static final int AREA = 5;
    private static final int HOUSE = 6;
    private static final int NONE = ScaleShop.NONE;
    private static final int LEAST = Integer.MIN_VALUE;
    private static final int GREATEST = Integer.MAX_VALUE;

    private static int wrong = 0;
    private static int asked = 0;
    private static String sentence = "";

    private interface Call {
        long on(ScaleShop x);
    }

    public static void main(String[] args) {
        terms();
        laws();
        sweeps();
        refusals();
        makingFeatures();
        steps();
        stepsOfMany();
        takingBack();
        telling();
        System.out.println(asked + " answers asked, " + wrong + " not as due");
        if (wrong != 0) {
            System.exit(1);
        }
    }

    private static void terms() {
        placesOfCorners();
        placesThatAreAsked();
        placesAfterSteps();
        featuresAtMost();
        kinds();
        cornersOfPoints();
        cornersOfLines();
        cornersOfRings();
        edges();
        setOfAPoint();
        states();
        simpleAlike();
        simpleNeighbours();
        simpleOthers();
        simpleRingOfThree();
        rightAngles();
        meetsAtOnePoint();
        meetsInAllDirections();
        insideByARay();
        areaTwice();
        distanceAsAFraction();
    }

    private static void laws() {
        stepsAreNumbered();
        lawSimple();
        lawMeets();
        lawCornersInside();
        lawCornerZero();
        lawOfOthers();
        lawOfPoints();
    }

    private static void sweeps() {
        sweptTriangles();
        sweptEdges();
        sweptWhereBothMove();
        sweptDiagonal();
        sweptSpares();
        sweptEdgeThatStays();
        sweptWhereACornerGoes();
        sweptNotBySquare();
        sweptWithoutArea();
    }

    private static void refusals() {
        refusedWhileMaking();
        refusedPlainer();
        refusedSmooth();
        refusedShift();
        refusedGrowAndSquare();
        refusedJoin();
        refusedOfMany();
        refusedUndoAndRedo();
        doneSetsStatus();
        tellingLeavesStatus();
    }

    private static void makingFeatures() {
        emptySheet();
        featureBounds();
        featureRoom();
        cornerTooMany();
        tearAlready();
        doneTooFew();
    }

    private static void steps() {
        plainerLimit();
        plainerOrder();
        plainerEnds();
        plainerRound();
        plainerOfThree();
        stepsOfForty();
        plainerWhereOthersAre();
        smoothIsCut();
        smoothRound();
        smoothNothing();
        shiftBounds();
        shiftNeighbours();
        shiftTwenty();
        shiftNearerWay();
        shiftCutTowardsZero();
        shiftWhateverN();
        shiftNothing();
        growTwice();
        squareMost();
        squareCorners();
        joinGap();
        joinBox();
        joinRoom();
        dropStates();
    }

    private static void stepsOfMany() {
        fewLeast();
        fewMany();
        fewOfTowns();
        chooseWeight();
        chooseJoined();
        chooseOrder();
        chooseOfMany();
        runLimit();
        runAgain();
    }

    private static void takingBack() {
        undoNone();
        undoSince();
        undoJoin();
        redoNone();
        redoForgets();
    }

    private static void telling() {
        meetsOthers();
        insideOthers();
        sideOthers();
        nearOthers();
        clashesLess();
        clashPairs();
        farGreatest();
        farOfStepsThatAreDone();
        farBeyondEnds();
        sizeOthers();
        atOthers();
        toldOthers();
        stepOthers();
        countOthers();
        statusOfNew();
    }

    private static void due(String call, long got, long want) {
        asked++;
        if (got != want) {
            wrong++;
            System.out.println(sentence + " | " + call + " answered " + got + ", due is " + want);
        }
    }

    private static long number(boolean answer) {
        return answer ? 1 : 0;
    }

    private static void yes(String call, boolean got) {
        due(call, number(got), 1);
    }

    private static void no(String call, boolean got) {
        due(call, number(got), 0);
    }

    private static void granted(ScaleShop x, String call, boolean got) {
        yes(call, got);
        due(call + ", status", x.status(), 0);
    }

    private static void refused(ScaleShop x, String call, boolean got, int why) {
        no(call, got);
        due(call + ", status", x.status(), why);
    }

    private static void refused(ScaleShop x, String call, long got, int why) {
        due(call, got, NONE);
        due(call + ", status", x.status(), why);
    }

    /** The same question at a boundary: granted if why is 0, else refused by it. */
    private static void answered(ScaleShop x, String call, boolean got, int why) {
        due(call, number(got), why == 0 ? 1 : 0);
        due(call + ", status", x.status(), why);
    }

    private static int open(ScaleShop x, int kind, int... places) {
        int number = x.feature(kind, 0, 0, 0);
        for (int k = 0; k + 1 < places.length; k += 2) {
            x.corner(number, places[k], places[k + 1]);
        }
        return number;
    }

    private static int there(ScaleShop x, int kind, int... places) {
        int number = open(x, kind, places);
        yes("done() of kind " + kind + " " + Arrays.toString(places), x.done(number));
        return number;
    }

    private static int made(ScaleShop x, int kind, int rank, int width, int town, int... places) {
        int number = x.feature(kind, rank, width, town);
        for (int k = 0; k + 1 < places.length; k += 2) {
            x.corner(number, places[k], places[k + 1]);
        }
        yes("done() of kind " + kind + " " + Arrays.toString(places), x.done(number));
        return number;
    }

    private static int house(ScaleShop x, int left, int low, int right, int high) {
        return there(x, HOUSE, box(left, low, right, high));
    }

    private static int[] box(int left, int low, int right, int high) {
        return new int[] {left, low, right, low, right, high, left, high};
    }

    private static int torn(ScaleShop x, int kind, int... places) {
        int number = there(x, kind, places);
        yes("tear()", x.tear(number));
        return number;
    }

    private static int gone(ScaleShop x, int kind, int... places) {
        int number = there(x, kind, places);
        yes("drop()", x.drop(number));
        return number;
    }

    private static void row(ScaleShop x, String when, int feature, int... places) {
        due(when + ": CORNERS", x.told(feature, 4), places.length / 2);
        for (int k = 0; k < places.length / 2; k++) {
            due(when + ": x of CORNER " + k, x.at(feature, k, 0), places[2 * k]);
            due(when + ": y of CORNER " + k, x.at(feature, k, 1), places[2 * k + 1]);
        }
    }

    private static void simple(String what, boolean want, int kind, int... places) {
        ScaleShop x = new ScaleShop();
        int number = open(x, kind, places);
        answered(x, what, x.done(number), want ? 0 : 6);
        due(what + ", state", x.told(number, 5), want ? 1 : 0);
    }

    /** All that can be asked of a small sheet, but for its status and the refusals by 7. */
    private static String picture(ScaleShop x) {
        StringBuilder text = new StringBuilder();
        for (int what = 0; what <= 6; what++) {
            text.append(x.count(what)).append(' ');
        }
        for (int i = 0; i < x.count(0); i++) {
            text.append('\n');
            for (int what = 0; what <= 10; what++) {
                text.append(x.told(i, what)).append(' ');
            }
            for (int k = 0; k < x.told(i, 4); k++) {
                text.append(x.at(i, k, 0)).append(',').append(x.at(i, k, 1)).append(' ');
            }
        }
        for (int i = 1; x.step(i, 0) != NONE; i++) {
            text.append('\n');
            for (int what = 0; what <= 3; what++) {
                text.append(x.step(i, what)).append(' ');
            }
        }
        return text.toString();
    }

    // Terms

    private static void placesOfCorners() {
        sentence = "PLACES are pairs of ints, both 0 .. 1000";
        int[] good = {0, 1, 999, 1000};
        int[] bad = {LEAST, -1, 1001, GREATEST};
        ScaleShop x = new ScaleShop();
        int line = open(x, LINE);
        int told = 0;
        for (int value : good) {
            due("x " + value, x.corner(line, value, 500), ++told);
            due("x told", x.at(line, told - 1, 0), value);
            due("y " + value, x.corner(line, 500, value), ++told);
            due("y told", x.at(line, told - 1, 1), value);
        }
        for (int value : bad) {
            refused(x, "x " + value, x.corner(line, value, 500), 4);
            refused(x, "y " + value, x.corner(line, 500, value), 4);
            refused(x, "both " + value, x.corner(line, value, value), 4);
        }
        due("none came by those", x.told(line, 4), told);
    }

    private static void placesThatAreAsked() {
        sentence = "PLACES are pairs of ints, both 0 .. 1000";
        ScaleShop x = new ScaleShop();
        int sheet = house(x, 0, 0, 1000, 1000);
        int left = there(x, LINE, 1, 0, 1, 1000);
        int right = there(x, LINE, 999, 0, 999, 1000);
        int low = there(x, LINE, 0, 1, 1000, 1);
        int high = there(x, LINE, 0, 999, 1000, 999);
        int[][] asked = {{-1, NONE}, {0, 2}, {1, 1}, {999, 1}, {1000, 2}, {1001, NONE}, {LEAST, NONE},
            {GREATEST, NONE}};
        for (int[] each : asked) {
            due("inside() at x " + each[0], x.inside(each[0], 500, sheet), each[1]);
            due("inside() at y " + each[0], x.inside(500, each[0], sheet), each[1]);
        }
        due("side() at x -1", x.side(-1, 500, left, 0), 0);
        due("side() at x 0", x.side(0, 500, left, 0), 1);
        due("side() at x 1000", x.side(1000, 500, right, 0), -1);
        due("side() at x 1001", x.side(1001, 500, right, 0), 0);
        due("side() at y -1", x.side(500, -1, low, 0), 0);
        due("side() at y 0", x.side(500, 0, low, 0), -1);
        due("side() at y 1000", x.side(500, 1000, high, 0), 1);
        due("side() at y 1001", x.side(500, 1001, high, 0), 0);
    }

    private static void placesAfterSteps() {
        sentence = "LAWFUL: all CORNERS are PLACES";
        int[][] moves = {{200, -200, 0}, {199, -200, 7}, {201, -200, 0}, {800, 200, 0}, {801, 200, 7}, {799, 200, 0},
            {0, -1, 7}, {1, -1, 0}, {1000, 1, 7}, {999, 1, 0}};
        for (int[] move : moves) {
            ScaleShop x = new ScaleShop();
            int across = there(x, POINT, move[0], 500);
            int along = there(x, POINT, 400, move[0]);
            answered(x, "x " + move[0] + " by " + move[1], x.shift(across, 0, move[1], 0, 0), move[2]);
            answered(x, "y " + move[0] + " by " + move[1], x.shift(along, 0, 0, move[1], 0), move[2]);
        }
        int[][] houses = {{0, 0, 500, 500, 0}, {0, 0, 501, 500, 7}, {0, 0, 500, 501, 7}, {500, 500, 250, 250, 0},
            {500, 500, 249, 250, 7}, {500, 500, 250, 249, 7}};
        for (int[] h : houses) {
            ScaleShop x = new ScaleShop();
            int number = there(x, HOUSE, box(h[0], h[1], h[2], h[3]));
            answered(x, "grow() " + Arrays.toString(h), x.grow(number), h[4]);
        }
        ScaleShop x = new ScaleShop();
        int line = there(x, LINE, 10, 1, 20, 1, 30, 1);
        int area = there(x, AREA, 960, 999, 980, 950, 990, 950);
        refused(x, "LINE below 0", x.shift(line, 1, 0, -2, 0), 7);
        granted(x, "LINE at 0", x.shift(line, 1, 0, -1, 0));
        refused(x, "AREA above 1000", x.shift(area, 0, 0, 2, 0), 7);
        granted(x, "AREA at 1000", x.shift(area, 0, 0, 1, 0));
        refused(x, "a neighbour above 1000", x.shift(area, 1, 0, 2, 1), 7);
        granted(x, "a neighbour that stays at 1000", x.shift(area, 1, 0, 1, 1));
    }

    private static void featuresAtMost() {
        sentence = "FEATURES are numbered 0, 1, .. (200 at most)";
        ScaleShop x = new ScaleShop();
        for (int i = 0; i < 200; i++) {
            due("number", x.feature(i % 7, 0, 0, 0), i);
            due("how many", x.count(0), i + 1);
        }
        refused(x, "the 201st", x.feature(POINT, 0, 0, 0), 8);
        due("how many", x.count(0), 200);
        due("the last one", x.told(199, 0), 199 % 7);
        due("no such", x.told(200, 0), NONE);
        due("its CORNER", x.corner(199, 3, 4), 1);
        refused(x, "no such", x.corner(200, 3, 4), 1);
    }

    private static void kinds() {
        sentence = "KIND: 0 POINT .. 6 HOUSE; 1 to 4 are LINES, 5 and 6 RINGS";
        for (int kind = POINT; kind <= HOUSE; kind++) {
            ScaleShop x = new ScaleShop();
            int number = kind == POINT ? there(x, kind, 0, 0) : there(x, kind, box(0, 0, 30, 40));
            due("KIND", x.told(number, 0), kind);
            due("size() of kind " + kind, x.size(number), kind == POINT ? 0 : kind < AREA ? 100 : 2400);
            due("inside() of kind " + kind, x.inside(10, 20, number), kind < AREA ? NONE : 1);
            due("EDGE 2 of kind " + kind, x.side(10, 20, number, 2), kind == POINT ? 0 : 1);
            due("EDGE 3 of kind " + kind, x.side(10, 20, number, 3), kind < AREA ? 0 : 1);
        }
    }

    private static void cornersOfPoints() {
        sentence = "a POINT has one CORNER";
        ScaleShop x = new ScaleShop();
        int point = open(x, POINT);
        refused(x, "none", x.done(point), 6);
        due("one", x.corner(point, 5, 5), 1);
        refused(x, "two", x.corner(point, 6, 6), 6);
        row(x, "after that", point, 5, 5);
        granted(x, "one is enough", x.done(point));
    }

    private static void cornersOfLines() {
        sentence = "LINES have 2 .. 40 CORNERS";
        for (int kind = LINE; kind <= BORDER; kind++) {
            ScaleShop x = new ScaleShop();
            int few = open(x, kind);
            refused(x, "none", x.done(few), 6);
            x.corner(few, 0, 0);
            refused(x, "1", x.done(few), 6);
            x.corner(few, 0, 10);
            granted(x, "2", x.done(few));
            int three = open(x, kind, 10, 0, 10, 10, 10, 20);
            granted(x, "3", x.done(three));
            int almost = open(x, kind);
            int many = open(x, kind);
            for (int k = 0; k < 39; k++) {
                due("CORNER", x.corner(almost, 20 + k, 0), k + 1);
                due("CORNER", x.corner(many, 20 + k, 10), k + 1);
            }
            granted(x, "39", x.done(almost));
            due("the 40th", x.corner(many, 100, 10), 40);
            refused(x, "the 41st", x.corner(many, 101, 10), 6);
            due("it has", x.told(many, 4), 40);
            granted(x, "40", x.done(many));
        }
    }

    private static void cornersOfRings() {
        sentence = "RINGS have 3 .. 40 CORNERS";
        for (int kind = AREA; kind <= HOUSE; kind++) {
            ScaleShop x = new ScaleShop();
            int ring = open(x, kind);
            refused(x, "none", x.done(ring), 6);
            x.corner(ring, 0, 0);
            refused(x, "1", x.done(ring), 6);
            x.corner(ring, 10, 0);
            refused(x, "2", x.done(ring), 6);
            x.corner(ring, 10, 10);
            answered(x, "3", x.done(ring), kind == AREA ? 0 : 6);
            int many = open(x, kind);
            // A stair of 38 corners up to the right, and the two corners above it.
            for (int k = 0; k < 38; k++) {
                x.corner(many, 100 + 10 * ((k + 1) / 2), 100 + 10 * (k / 2));
            }
            due("the 39th", x.corner(many, 290, 300), 39);
            due("the 40th", x.corner(many, 100, 300), 40);
            refused(x, "the 41st", x.corner(many, 100, 200), 6);
            granted(x, "40", x.done(many));
            due("AREA2 of the stair", x.size(many), 2 * (190 * 200 - 10 * 10 * (18 * 19 / 2)));
        }
        simple("a HOUSE of 4", true, HOUSE, box(0, 0, 10, 10));
        simple("an AREA of 4", true, AREA, box(0, 0, 10, 10));
    }

    private static void edges() {
        sentence = "EDGES from each CORNER to the next, of RINGS from the last one to the first, too";
        ScaleShop x = new ScaleShop();
        int line = there(x, BORDER, 100, 100, 200, 100, 200, 200);
        int ring = there(x, AREA, 300, 100, 400, 100, 400, 200);
        due("LINE -1", x.side(150, 150, line, -1), 0);
        due("LINE 0", x.side(150, 150, line, 0), 1);
        due("LINE 1", x.side(150, 150, line, 1), 1);
        due("LINE 2", x.side(150, 180, line, 2), 0);
        due("RING -1", x.side(350, 120, ring, -1), 0);
        due("RING 0", x.side(350, 120, ring, 0), 1);
        due("RING 1", x.side(350, 120, ring, 1), 1);
        due("RING 2", x.side(350, 120, ring, 2), 1);
        due("RING 2, beyond", x.side(350, 180, ring, 2), -1);
        due("RING 3", x.side(350, 180, ring, 3), 0);
        int onGap = there(x, POINT, 150, 150);
        int onLast = there(x, POINT, 350, 150);
        no("a LINE has none from the last one to the first", x.meets(line, onGap));
        yes("a RING has", x.meets(ring, onLast));
        due("size() of the LINE", x.size(line), 200);
    }

    private static void setOfAPoint() {
        sentence = "Its SET are all points of its EDGES (of a POINT its CORNER)";
        ScaleShop x = new ScaleShop();
        int point = there(x, POINT, 50, 50);
        int same = there(x, POINT, 50, 50);
        int[][] around = {{49, 50}, {51, 50}, {50, 49}, {50, 51}};
        yes("alike", x.meets(point, same));
        for (int[] place : around) {
            no("beside", x.meets(point, there(x, POINT, place)));
        }
        int line = there(x, LINE, 100, 100, 110, 105);
        yes("both numbers whole", x.meets(line, there(x, POINT, 104, 102)));
        yes("its begin", x.meets(line, there(x, POINT, 100, 100)));
        yes("its end", x.meets(line, there(x, POINT, 110, 105)));
        no("before its begin", x.meets(line, there(x, POINT, 98, 99)));
        no("behind its end", x.meets(line, there(x, POINT, 112, 106)));
        no("just beside", x.meets(line, there(x, POINT, 103, 102)));
        no("just beside", x.meets(line, there(x, POINT, 105, 102)));
    }

    private static void states() {
        sentence = "It is OPEN while it is told, then THERE, till it is GONE";
        ScaleShop x = new ScaleShop();
        int line = x.feature(LINE, 0, 0, 0);
        due("begun", x.told(line, 5), 0);
        x.corner(line, 0, 0);
        x.done(line);
        due("done() was refused", x.told(line, 5), 0);
        x.corner(line, 9, 0);
        due("told", x.told(line, 5), 0);
        x.done(line);
        due("done()", x.told(line, 5), 1);
        x.drop(line);
        due("drop()", x.told(line, 5), 2);
        refused(x, "GONE for ever", x.done(line), 2);
        x.undo();
        due("but for undo()", x.told(line, 5), 1);
    }

    private static void simpleAlike() {
        sentence = "SIMPLE: no two CORNERS one behind the other are alike";
        simple("both", false, LINE, 5, 5, 5, 5);
        simple("one apart in x", true, LINE, 5, 5, 6, 5);
        simple("one apart in y", true, LINE, 5, 5, 5, 4);
        simple("the first two", false, RIVER, 5, 5, 5, 5, 9, 9);
        simple("the last two", false, ROAD, 5, 5, 9, 9, 9, 9);
        simple("in the middle", false, BORDER, 0, 0, 5, 5, 5, 5, 9, 9);
        simple("of a RING", false, AREA, 0, 0, 9, 0, 9, 0, 0, 9);
        simple("the last and the first of a RING", false, AREA, 0, 0, 9, 0, 0, 9, 0, 0);
        simple("the last beside the first of a RING", true, AREA, 0, 0, 9, 0, 0, 9, 0, 1);
        simple("all of a RING of three", false, AREA, 7, 7, 7, 7, 7, 7);
        simple("two of a RING of three", false, AREA, 7, 7, 9, 9, 7, 7);
    }

    private static void simpleNeighbours() {
        sentence = "SIMPLE: two EDGES that are neighbours have only their common CORNER in common";
        simple("straight on", true, LINE, 10, 10, 20, 10, 30, 10);
        simple("a turn", true, LINE, 10, 10, 20, 10, 10, 11);
        simple("back to the begin", false, LINE, 10, 10, 20, 10, 10, 10);
        simple("back to the begin, one away", false, LINE, 10, 10, 11, 10, 10, 10);
        simple("back before it", false, LINE, 10, 10, 20, 10, 11, 10);
        simple("back beyond it", false, LINE, 10, 10, 20, 10, 9, 10);
        simple("back aslant", false, LINE, 10, 10, 30, 40, 20, 25);
        simple("nearly back aslant", true, LINE, 10, 10, 30, 40, 20, 26);
        simple("of a RING, at the first CORNER", false, AREA, 10, 10, 30, 10, 30, 30, 20, 10);
        simple("nearly so", true, AREA, 10, 10, 30, 10, 30, 30, 20, 11);
        simple("of a RING, at the last CORNER", false, AREA, 10, 10, 30, 10, 30, 30, 10, 30, 10, 40);
    }

    private static void simpleOthers() {
        sentence = "SIMPLE: other EDGES have nothing in common";
        simple("the end lies on an EDGE", false, LINE, 0, 50, 100, 50, 100, 100, 50, 100, 50, 50);
        simple("one before that", true, LINE, 0, 50, 100, 50, 100, 100, 50, 100, 50, 51);
        simple("one beyond that", false, LINE, 0, 50, 100, 50, 100, 100, 50, 100, 50, 49);
        simple("the end is the begin", false, LINE, 0, 0, 50, 0, 50, 50, 0, 0);
        simple("the end is beside the begin", true, LINE, 0, 0, 50, 0, 50, 50, 0, 1);
        simple("the end is an inner CORNER", false, LINE, 0, 0, 50, 0, 50, 50, 0, 50, 50, 0);
        simple("a RING touches itself with a CORNER", false, AREA, 0, 0, 100, 0, 100, 100, 50, 0, 0, 100);
        simple("one before that", true, AREA, 0, 0, 100, 0, 100, 100, 50, 1, 0, 100);
        simple("a RING has a CORNER twice", false, AREA, 0, 0, 50, 50, 100, 0, 100, 100, 50, 50, 0, 100);
        simple("a LINE of three EDGES", true, LINE, 0, 0, 100, 0, 20, 60, 80, 100);
        simple("the EDGE from the last one to the first", false, AREA, 0, 0, 100, 0, 20, 60, 80, 100);
        simple("two EDGES lie on one another", false, LINE, 0, 0, 50, 0, 50, 9, 60, 9, 60, 0, 40, 0);
        simple("on one line, apart", true, LINE, 0, 0, 50, 0, 50, 9, 60, 9, 60, 0, 51, 0);
    }

    private static void simpleRingOfThree() {
        sentence = "of a RING of three, each two EDGES are neighbours";
        simple("three", true, AREA, 0, 0, 9, 0, 0, 9);
        simple("the other way round", true, AREA, 0, 0, 0, 9, 9, 0);
        simple("the flattest one", true, AREA, 0, 0, 500, 1, 999, 2);
        simple("on one line", false, AREA, 0, 0, 500, 1, 1000, 2);
        simple("on one line, the last between", false, AREA, 0, 0, 1000, 2, 500, 1);
        simple("a LINE of three EDGES that is closed has none such", false, LINE, 0, 0, 9, 0, 0, 9, 0, 0);
    }

    private static void rightAngles() {
        sentence = "A HOUSE besides: each two neighbours make a right angle";
        simple("along the axes", true, HOUSE, box(10, 10, 30, 20));
        simple("the other way round", true, HOUSE, 10, 10, 10, 20, 30, 20, 30, 10);
        simple("aslant", true, HOUSE, 30, 0, 130, 1, 129, 101, 29, 100);
        simple("CORNER 0 is off by one", false, HOUSE, 11, 10, 30, 10, 30, 20, 10, 20);
        simple("CORNER 1 is off by one", false, HOUSE, 10, 10, 30, 11, 30, 20, 10, 20);
        simple("CORNER 2 is off by one", false, HOUSE, 10, 10, 30, 10, 31, 20, 10, 20);
        simple("CORNER 3 is off by one", false, HOUSE, 10, 10, 30, 10, 30, 20, 10, 19);
        simple("straight on is no right angle", false, HOUSE, 10, 10, 20, 10, 30, 10, 30, 20, 10, 20);
        simple("nor is it at CORNER 0", false, HOUSE, 20, 10, 30, 10, 30, 20, 10, 20, 10, 10);
        simple("nor at the last CORNER", false, HOUSE, 30, 10, 30, 20, 10, 20, 10, 10, 20, 10);
        simple("the same for an AREA", true, AREA, 10, 10, 20, 10, 30, 10, 30, 20, 10, 20);
        simple("right angles inwards", true, HOUSE, 0, 0, 30, 0, 30, 30, 20, 30, 20, 10, 10, 10, 10, 30, 0, 30);
        simple("right angles, not SIMPLE", false, HOUSE, 0, 0, 30, 0, 30, 30, 20, 30, 20, 0, 10, 0, 10, 30, 0, 30);
        simple("three of them make none", false, HOUSE, 0, 0, 9, 0, 0, 9);
    }

    private static void meetsAtOnePoint() {
        sentence = "MEETS of two: their SETS have a point in common";
        ScaleShop x = new ScaleShop();
        int slant = there(x, LINE, 0, 0, 999, 1000);
        // Twice the triangle with the EDGE is 1: no PLACE off its line is nearer to it.
        int above = there(x, POINT, 998, 999);
        int below = there(x, POINT, 1, 1);
        no("just above", x.meets(slant, above));
        no("just below", x.meets(below, slant));
        yes("across between both", x.meets(slant, there(x, LINE, 998, 999, 999, 999)));
        no("ends just before", x.meets(slant, there(x, LINE, 1, 1, 1000, 1)));
        yes("crosses where no PLACE is", x.meets(slant, there(x, LINE, 0, 1, 1, 0)));
        ScaleShop y = new ScaleShop();
        int bar = there(y, LINE, 100, 100, 200, 100);
        yes("an end upon it", y.meets(bar, there(y, LINE, 150, 100, 150, 200)));
        no("an end one above it", y.meets(bar, there(y, LINE, 150, 101, 150, 200)));
        yes("end at end, in one line", y.meets(bar, there(y, LINE, 200, 100, 300, 100)));
        no("one apart in one line", y.meets(bar, there(y, LINE, 201, 100, 300, 100)));
        yes("within it", y.meets(bar, there(y, LINE, 120, 100, 130, 100)));
        no("beside it, as long", y.meets(bar, there(y, LINE, 100, 101, 200, 101)));
        int ring = house(y, 90, 90, 210, 110);
        no("inside a RING", y.meets(bar, ring));
        yes("touching a RING from inside", y.meets(ring, there(y, LINE, 150, 105, 150, 110)));
        no("one before that", y.meets(ring, there(y, LINE, 160, 105, 160, 109)));
    }

    /** Both LINES told from both ends, and asked in both orders. */
    private static void meetsEachWay(String what, boolean want, int[] one, int[] other) {
        ScaleShop x = new ScaleShop();
        int[] ones = {there(x, LINE, one), there(x, LINE, one[2], one[3], one[0], one[1])};
        int[] others = {there(x, LINE, other), there(x, LINE, other[2], other[3], other[0], other[1])};
        for (int a : ones) {
            for (int b : others) {
                due(what, number(x.meets(a, b)), number(want));
                due(what, number(x.meets(b, a)), number(want));
            }
        }
    }

    private static void meetsInAllDirections() {
        sentence = "MEETS of two: their SETS have a point in common";
        int[][] ways = {{5, 0}, {5, 2}, {5, 5}, {2, 5}, {0, 5}, {-2, 5}, {-5, 5}, {-5, 2}, {-5, 0}, {-5, -2}, {-5, -5},
            {-2, -5}, {0, -5}, {2, -5}, {5, -5}, {5, -2}};
        for (int[] a : ways) {
            int[] bar = {500 - 2 * a[0], 500 - 2 * a[1], 500, 500};
            int[] longer = {500 - 2 * a[0], 500 - 2 * a[1], 500 + 2 * a[0], 500 + 2 * a[1]};
            for (int[] b : ways) {
                boolean apart = a[0] * b[1] != a[1] * b[0];
                int[] ray = {500, 500, 500 + b[0], 500 + b[1]};
                int[] off = {500 + b[0], 500 + b[1], 500 + 2 * b[0], 500 + 2 * b[1]};
                String what = Arrays.toString(a) + " and " + Arrays.toString(b);
                meetsEachWay("end at end " + what, true, bar, ray);
                meetsEachWay("end on the middle " + what, true, longer, ray);
                boolean back = !apart && a[0] * b[0] + a[1] * b[1] < 0;
                meetsEachWay("beside the end " + what, back, bar, off);
                meetsEachWay("beside the middle " + what, !apart, longer, off);
            }
        }
        int[] slant = {0, 0, 999, 1000};
        meetsEachWay("just below its line", false, slant, new int[] {1, 1, 1000, 1});
        meetsEachWay("just above its line", false, slant, new int[] {998, 999, 0, 999});
        meetsEachWay("over its line by one", true, slant, new int[] {998, 999, 1000, 999});
    }

    private static void insideByARay() {
        sentence = "INSIDE: it is not of its SET, and a ray from it crosses the EDGES an odd number of times";
        ScaleShop x = new ScaleShop();
        int comb = there(x, AREA, 100, 100, 200, 100, 200, 150, 180, 110, 160, 150, 140, 110, 120, 150, 100, 110);
        int[][] asked = {{99, 110, 0}, {100, 110, 2}, {101, 110, 1}, {139, 110, 1}, {140, 110, 2}, {141, 110, 1},
            {180, 110, 2}, {199, 110, 1}, {200, 110, 2}, {201, 110, 0}, {100, 100, 2}, {99, 100, 0}, {201, 100, 0},
            {150, 99, 0}, {150, 101, 1}, {120, 150, 2}, {120, 151, 0}, {119, 150, 0}, {121, 150, 0}, {140, 130, 0},
            {140, 111, 0}, {140, 109, 1}, {200, 150, 2}, {199, 150, 0}, {190, 130, 2}, {191, 130, 1}, {189, 130, 0}};
        for (int[] each : asked) {
            due("inside(" + each[0] + ", " + each[1] + ")", x.inside(each[0], each[1], comb), each[2]);
        }
        int flat = there(x, AREA, 300, 300, 400, 300, 400, 310, 500, 310, 500, 300, 600, 300, 600, 320, 300, 320);
        int[][] level = {{299, 300, 0}, {350, 300, 2}, {450, 300, 0}, {550, 300, 2}, {601, 300, 0}, {299, 310, 0},
            {350, 310, 1}, {450, 310, 2}, {550, 310, 1}, {450, 309, 0}, {450, 311, 1}, {350, 320, 2}, {350, 321, 0}};
        for (int[] each : level) {
            due("inside(" + each[0] + ", " + each[1] + ")", x.inside(each[0], each[1], flat), each[2]);
        }
        int[][] slanted = {{0, 0, 999, 1000, 1000, 0}, {1000, 0, 999, 1000, 0, 0}, {0, 0, 999, 1000, 0, 1000},
            {0, 1000, 999, 1000, 0, 0}};
        for (int i = 0; i < slanted.length; i++) {
            int ring = there(x, AREA, slanted[i]);
            due("just above the slanted EDGE of " + i, x.inside(998, 999, ring), i < 2 ? 0 : 1);
            due("just below the slanted EDGE of " + i, x.inside(1, 1, ring), i < 2 ? 1 : 0);
        }
    }

    private static void areaTwice() {
        sentence = "AREA2 of a RING is twice its area";
        ScaleShop x = new ScaleShop();
        due("the least one", x.size(there(x, AREA, 0, 0, 1, 0, 0, 1)), 1);
        due("the other way round", x.size(there(x, AREA, 10, 10, 10, 11, 11, 10)), 1);
        due("a flat one", x.size(there(x, AREA, 0, 100, 500, 101, 999, 102)), 1);
        due("the greatest one", x.size(house(x, 0, 0, 1000, 1000)), 2000000);
        due("the greatest one, the other way round", x.size(there(x, HOUSE, 0, 0, 0, 1000, 1000, 1000, 1000, 0)),
            2000000);
    }

    private static void distanceAsAFraction() {
        sentence = "DISTANCE: its square as a fraction, numerator and denominator without a common divisor (0: 0 by 1)";
        ScaleShop x = new ScaleShop();
        int slant = there(x, LINE, 0, 0, 999, 1000);
        int beside = there(x, POINT, 998, 999);
        int upon = there(x, POINT, 999, 1000);
        due("the least one, over", x.near(slant, beside, 0), 1);
        due("the least one, under", x.near(slant, beside, 1), 1998001);
        due("0, over", x.near(upon, slant, 0), 0);
        due("0, under", x.near(upon, slant, 1), 1);
        ScaleShop y = new ScaleShop();
        int low = there(y, LINE, 0, 1, 1000, 0);
        int high = there(y, POINT, 1000, 1000);
        due("a great one, over", y.near(low, high, 0), 1000000000000L);
        due("a great one, under", y.near(low, high, 1), 1000001);
        int origin = there(y, POINT, 0, 0);
        due("the greatest one, over", y.near(origin, high, 0), 2000000);
        due("the greatest one, under", y.near(origin, high, 1), 1);
        ScaleShop z = new ScaleShop();
        int roof = there(z, LINE, 100, 100, 110, 110, 120, 100);
        due("50 by 4, over", z.near(roof, there(z, POINT, 110, 105), 0), 25);
        due("50 by 4, under", z.near(roof, 1, 1), 2);
        due("a whole number, over", z.near(roof, there(z, POINT, 106, 102), 0), 8);
        due("a whole number, under", z.near(roof, 2, 1), 1);
        int bar = there(z, LINE, 200, 100, 300, 100);
        due("over its begin", z.near(bar, there(z, POINT, 200, 107), 0), 49);
        due("beyond its begin", z.near(bar, there(z, POINT, 199, 107), 0), 50);
        due("over its end", z.near(bar, there(z, POINT, 300, 93), 0), 49);
        due("beyond its end", z.near(bar, there(z, POINT, 301, 93), 0), 50);
        due("from inside a RING", z.near(house(z, 400, 100, 500, 200), there(z, POINT, 497, 150), 0), 9);
        distanceBesideTheEnds();
    }

    private static void distanceBesideTheEnds() {
        ScaleShop x = new ScaleShop();
        int slant = there(x, LINE, 100, 100, 102, 103);
        int[][] points = {{103, 98, 13, 1}, {102, 99, 64, 13}, {100, 104, 64, 13}, {99, 105, 13, 1}};
        for (int[] p : points) {
            int point = there(x, POINT, p[0], p[1]);
            due("over, from " + p[0], x.near(slant, point, 0), p[2]);
            due("under, from " + p[0], x.near(point, slant, 1), p[3]);
        }
        int bar = there(x, LINE, 200, 200, 300, 200);
        int[][] lines = {{250, 210, 250, 300}, {250, 300, 250, 210}, {250, 190, 240, 100}, {240, 100, 250, 190}};
        for (int[] line : lines) {
            int other = there(x, LINE, line);
            due("its CORNER is nearest to the middle", x.near(bar, other, 0), 100);
            due("the same from the other", x.near(other, bar, 0), 100);
        }
    }

    // LAWFUL

    private static void stepsAreNumbered() {
        sentence = "STEPS: one that is done is numbered 1, 2, ..";
        ScaleShop x = new ScaleShop();
        int point = there(x, POINT, 500, 500);
        due("none", x.count(5), 0);
        x.shift(point, 0, 1, 0, 0);
        due("1", x.count(5), 1);
        refused(x, "one that is refused has no number", x.shift(point, 0, 0, 0, 0), 8);
        x.shift(point, 0, 1, 0, 0);
        due("2", x.count(5), 2);
        due("2 is told", x.step(2, 0), 3);
        due("3 is not", x.step(3, 0), NONE);
        due("undone", x.undo(), 2);
        x.shift(point, 0, 0, 1, 0);
        due("2 again", x.undo(), 2);
        due("done again", x.redo(), 2);
        x.feature(POINT, 0, 0, 0);
        x.drop(point);
        due("3, behind feature()", x.told(point, 7), 3);
    }

    private static void lawSimple() {
        sentence = "LAWFUL if it is SIMPLE then";
        int[][] downs = {{-48, 0}, {-49, 0}, {-50, 7}, {-51, 7}, {49, 0}, {50, 0}};
        for (int[] down : downs) {
            ScaleShop x = new ScaleShop();
            int area = there(x, AREA, 0, 100, 100, 100, 100, 200, 50, 150, 0, 200);
            answered(x, "notch by " + down[0], x.shift(area, 3, 0, down[0], 0), down[1]);
        }
        int[][] asides = {{9, 0}, {10, 7}, {11, 7}, {-9, 0}, {-10, 7}, {-11, 7}};
        for (int[] aside : asides) {
            ScaleShop x = new ScaleShop();
            int line = there(x, LINE, 100, 100, 110, 100, 120, 100);
            answered(x, "along itself by " + aside[0], x.shift(line, 1, aside[0], 0, 0), aside[1]);
        }
        ScaleShop x = new ScaleShop();
        int tiny = there(x, AREA, 10, 10, 11, 10, 10, 11);
        refused(x, "smooth() to one place", x.smooth(tiny), 7);
        int[][] tails = {{110, NONE}, {101, NONE}, {100, NONE}, {99, 1}};
        for (int[] tail : tails) {
            ScaleShop y = new ScaleShop();
            int line = there(y, LINE, 100, 100, 110, 120, 120, 100, 200, 60, 200, 50, 110, 50, 110, tail[0]);
            due("plainer() over an end at " + tail[0], y.plainer(line, 400), tail[1]);
            due("status", y.status(), tail[1] == NONE ? 8 : 0);
            ScaleShop z = new ScaleShop();
            int back = there(z, LINE, 110, tail[0], 110, 50, 200, 50, 200, 60, 120, 100, 110, 120, 100, 100);
            due("plainer() over a begin at " + tail[0], z.plainer(back, 400), tail[1]);
        }
        int[][] tips = {{10, NONE}, {19, NONE}, {20, NONE}, {21, 1}};
        for (int[] tip : tips) {
            int[] ring = {20, 0, 100, 0, 100, 30, tip[0], 50, 100, 70, 100, 100, 20, 100, 0, 50};
            for (int begin = 0; begin < 8; begin++) {
                ScaleShop y = new ScaleShop();
                int area = there(y, AREA, turned(ring, begin));
                due("plainer() over a bay to " + tip[0] + ", begun at " + begin, y.plainer(area, 2000), tip[1]);
            }
        }
    }

    /** The same RING, begun at another CORNER. */
    private static int[] turned(int[] ring, int begin) {
        int[] places = new int[ring.length];
        for (int i = 0; i < ring.length; i++) {
            places[i] = ring[(i + 2 * begin) % ring.length];
        }
        return places;
    }

    private static void lawMeets() {
        sentence = "LAWFUL: MEETS of both is as before";
        int[][] ups = {{49, 0}, {50, 7}, {51, 7}};
        for (int[] up : ups) {
            ScaleShop x = new ScaleShop();
            int line = there(x, LINE, 100, 100, 150, 100, 200, 100);
            there(x, LINE, 140, 150, 160, 150);
            answered(x, "up by " + up[0], x.shift(line, 1, 0, up[0], 0), up[1]);
        }
        int[][] offs = {{1, 0}, {0, 8}, {-1, 7}};
        for (int[] off : offs) {
            ScaleShop x = new ScaleShop();
            int line = there(x, LINE, 100, 100, 150, 110, 200, 100);
            there(x, LINE, 90, 110, 210, 110);
            answered(x, "from touching by " + off[0], x.shift(line, 1, 0, off[0], 0), off[1]);
        }
        int[][] houses = {{9, 0}, {10, 7}, {11, 7}};
        for (int[] right : houses) {
            ScaleShop x = new ScaleShop();
            int house = house(x, 100, 100, 110, 110);
            there(x, LINE, 120, 0, 120, 300);
            answered(x, "a HOUSE by " + right[0], x.shift(house, 0, right[0], 0, 0), right[1]);
        }
        int[][] grown = {{19, 0}, {20, 7}, {21, 7}};
        for (int[] wide : grown) {
            ScaleShop x = new ScaleShop();
            int house = house(x, 100, 100, 100 + wide[0], 110);
            there(x, LINE, 140, 0, 140, 300);
            answered(x, "a HOUSE grows to " + (100 + 2 * wide[0]), x.grow(house), wide[1]);
        }
    }

    private static void lawCornersInside() {
        sentence = "LAWFUL: if the changed one is a RING: each CORNER of the other is INSIDE it as before";
        // The LINE meets the triangle and the box; only its last CORNER decides.
        int[][] lasts = {{8, 8, 0}, {10, 10, 7}, {11, 10, 7}, {19, 19, 7}, {21, 21, 0}};
        for (int[] last : lasts) {
            ScaleShop x = new ScaleShop();
            int area = there(x, AREA, 0, 0, 20, 0, 0, 20);
            there(x, LINE, 5, 30, 5, 5, last[0], last[1]);
            answered(x, "last CORNER " + last[0] + ", " + last[1], x.square(area, 400), last[2]);
        }
        int[][] firsts = {{8, 8, 0}, {10, 10, 7}, {11, 10, 7}, {19, 19, 7}, {21, 21, 0}};
        for (int[] first : firsts) {
            ScaleShop x = new ScaleShop();
            int area = there(x, AREA, 0, 0, 20, 0, 0, 20);
            there(x, LINE, first[0], first[1], 5, 5, 5, 30);
            answered(x, "first CORNER " + first[0] + ", " + first[1], x.square(area, 400), first[2]);
        }
        ScaleShop x = new ScaleShop();
        int area = there(x, AREA, 0, 0, 20, 0, 0, 20);
        there(x, LINE, 10, 0, 10, 30);
        granted(x, "of the SET before and then: not INSIDE", x.square(area, 400));
    }

    private static void lawCornerZero() {
        sentence = "LAWFUL: if the other is a RING: CORNER 0 of the changed one (then) is INSIDE it as before";
        ScaleShop x = new ScaleShop();
        house(x, 0, 0, 100, 100);
        int area = there(x, AREA, 90, 52, 110, 60, 110, 95, 50, 95, 50, 50);
        refused(x, "CORNER 0 may not go: the next one is outside", x.plainer(area, 280), 8);
        ScaleShop y = new ScaleShop();
        house(y, 0, 0, 100, 100);
        int turned = there(y, AREA, 50, 50, 90, 52, 110, 60, 110, 95, 50, 95);
        due("the same one as CORNER 1 may", y.plainer(turned, 280), 1);
        ScaleShop z = new ScaleShop();
        there(z, LINE, 0, 0, 100, 0, 100, 100, 0, 100);
        int free = there(z, AREA, 90, 52, 110, 60, 110, 95, 50, 95, 50, 50);
        due("the same one may beside a LINE", z.plainer(free, 280), 1);
        ScaleShop w = new ScaleShop();
        house(w, 0, 0, 110, 100);
        int upon = there(w, AREA, 90, 52, 110, 60, 120, 95, 50, 95, 50, 50);
        refused(w, "of its SET is not INSIDE", w.plainer(upon, 280), 8);
        // The box begins at another place than the AREA: outside the HOUSE before, inside it then.
        int[][] begins = {{110, 90, 7}, {90, 40, 0}};
        for (int[] begin : begins) {
            ScaleShop v = new ScaleShop();
            house(v, 0, 0, 100, 100);
            int slanted = begin[2] == 7 ? there(v, AREA, 110, 90, 80, 90, 80, 40)
                : there(v, AREA, 80, 40, 110, 90, 80, 90);
            answered(v, "square() from " + begin[0], v.square(slanted, 5000), begin[2]);
        }
    }

    private static void lawOfOthers() {
        sentence = "LAWFUL, of each other FEATURE that is THERE and not TORN";
        ScaleShop x = new ScaleShop();
        int line = there(x, LINE, 100, 100, 150, 100, 200, 100);
        open(x, POINT, 150, 105);
        gone(x, POINT, 150, 106);
        torn(x, POINT, 150, 107);
        granted(x, "OPEN, GONE and TORN ones", x.shift(line, 1, 0, 10, 0));
        x.undo();
        int last = there(x, POINT, 150, 108);
        refused(x, "one that is THERE", x.shift(line, 1, 0, 10, 0), 7);
        x.drop(last);
        granted(x, "till it is GONE", x.shift(line, 1, 0, 10, 0));
        x.undo();
        x.undo();
        refused(x, "and again when that is undone", x.shift(line, 1, 0, 10, 0), 7);
    }

    private static void lawOfPoints() {
        sentence = "LAWFUL: a POINT's way has no point of the other's SET but that where it was";
        wayBeside(49, 0, 150, 50, 150, 150, 0);
        wayBeside(50, 0, 150, 50, 150, 150, 7);
        wayBeside(51, 0, 150, 50, 150, 150, 7);
        wayBeside(100, 0, 150, 50, 150, 99, 0);
        wayBeside(100, 0, 150, 50, 150, 100, 7);
        wayBeside(100, 0, 150, 100, 150, 150, 7);
        wayBeside(100, 0, 150, 101, 150, 150, 0);
        wayBeside(9, 0, 110, 100, 120, 100, 0);
        wayBeside(10, 0, 110, 100, 120, 100, 7);
        wayBeside(30, 0, 110, 100, 120, 100, 7);
        wayBeside(-50, -50, 50, 51, 40, 60, 0);
        wayBeside(-51, -51, 50, 50, 40, 60, 7);
        wayBeside(0, 0, 100, 100, 100, 150, 8);
        wayBeside(0, 0, 50, 50, 150, 150, 8);
        wayBeside(0, 10, 100, 100, 100, 150, 7);
        wayBeside(0, -10, 100, 100, 100, 150, 7);
        int[][] points = {{150, 100, 49, 0, 0}, {150, 100, 50, 0, 7}, {150, 100, 51, 0, 7}, {150, 101, 100, 0, 0},
            {150, 150, 100, 100, 7}, {150, 151, 100, 100, 0}, {100, 100, 1, 0, 7}, {100, 100, 0, 0, 8}};
        for (int[] p : points) {
            ScaleShop x = new ScaleShop();
            int point = there(x, POINT, 100, 100);
            there(x, POINT, p[0], p[1]);
            answered(x, "beside a POINT " + Arrays.toString(p), x.shift(point, 0, p[2], p[3], 0), p[4]);
        }
        ScaleShop x = new ScaleShop();
        int point = there(x, POINT, 100, 100);
        there(x, AREA, 110, 90, 130, 90, 130, 110, 110, 110);
        refused(x, "through a RING", x.shift(point, 0, 40, 0, 0), 7);
        refused(x, "into a RING", x.shift(point, 0, 20, 0, 0), 7);
        granted(x, "up to it", x.shift(point, 0, 9, 0, 0));
    }

    private static void wayBeside(int dx, int dy, int fromX, int fromY, int toX, int toY, int why) {
        ScaleShop x = new ScaleShop();
        int point = there(x, POINT, 100, 100);
        there(x, LINE, fromX, fromY, toX, toY);
        answered(x, "by " + dx + ", " + dy + " beside " + fromX + ", " + fromY + " to " + toX + ", " + toY,
            x.shift(point, 0, dx, dy, 0), why);
    }

    // SWEPT

    /** Moves the middle of a level LINE from 100 to 300 up by 60, with another FEATURE beside it. */
    private static void lifted(String what, int why, int kind, int... places) {
        ScaleShop x = new ScaleShop();
        int line = there(x, LINE, 100, 100, 200, 100, 300, 100);
        there(x, kind, places);
        answered(x, what + " " + Arrays.toString(places), x.shift(line, 1, 0, 60, 0), why);
    }

    private static void sweptTriangles() {
        sentence = "SWEPT: what is in the triangles a b b' and a a' b'";
        lifted("in the first", 7, POINT, 190, 110);
        lifted("in the second", 7, POINT, 210, 110);
        lifted("below the new EDGE", 7, POINT, 150, 129);
        lifted("above the new EDGE", 0, POINT, 150, 131);
        lifted("below the second new EDGE", 7, POINT, 250, 129);
        lifted("above the second new EDGE", 0, POINT, 250, 131);
        lifted("below the old EDGE", 0, POINT, 150, 99);
        lifted("above the old EDGE", 7, POINT, 150, 101);
        lifted("before its begin", 0, POINT, 99, 100);
        lifted("behind its end", 0, POINT, 301, 100);
        lifted("any CORNER of the other, the last one", 7, LINE, 90, 90, 90, 300, 400, 300, 400, 50, 220, 50, 220, 148);
        lifted("no CORNER of it", 0, LINE, 90, 90, 90, 300, 400, 300, 400, 50, 220, 50, 220, 149);
    }

    private static void sweptEdges() {
        sentence = "SWEPT: (their EDGES too)";
        lifted("b to b', at its middle", 7, POINT, 200, 130);
        lifted("b to b', one before b'", 7, POINT, 200, 159);
        lifted("b' itself meets", 7, POINT, 200, 160);
        lifted("one beyond b'", 0, POINT, 200, 161);
        lifted("one below b", 0, POINT, 200, 99);
        // These meet the LINE before and then: it is their CORNER that counts.
        lifted("a to b", 7, LINE, 150, 100, 150, 300);
        lifted("one below a to b", 0, LINE, 150, 99, 150, 300);
        lifted("one above a to b meets anew", 7, LINE, 150, 101, 150, 300);
        lifted("a to b'", 7, LINE, 150, 130, 150, 50);
        lifted("one above a to b'", 0, LINE, 150, 131, 150, 50);
        lifted("one below a to b'", 7, LINE, 150, 129, 150, 50);
        lifted("a to b, of the second", 7, LINE, 250, 100, 250, 300);
        lifted("a' to b', of the second", 7, LINE, 250, 130, 250, 50);
        lifted("one above a' to b', of the second", 0, LINE, 250, 131, 250, 50);
    }

    private static void sweptWhereBothMove() {
        sentence = "SWEPT: of each EDGE from a to b that becomes a' to b'";
        int[][] points = {{250, 99, 0}, {250, 101, 7}, {250, 115, 7}, {250, 144, 7}, {250, 145, 7}, {250, 146, 0},
            {350, 99, 0}, {350, 101, 7}, {350, 114, 7}, {350, 115, 7}, {350, 116, 0}, {150, 129, 7}, {150, 131, 0}};
        for (int[] p : points) {
            ScaleShop x = new ScaleShop();
            int line = there(x, LINE, 100, 100, 200, 100, 300, 100, 400, 100);
            there(x, POINT, p[0], p[1]);
            answered(x, "POINT " + p[0] + ", " + p[1], x.shift(line, 1, 0, 60, 1), p[2]);
        }
        int[][] houses = {{31, 15, 7}, {40, 10, 7}, {40, 9, 0}, {40, 20, 7}, {40, 21, 0}, {70, 15, 7}, {71, 15, 0},
            {9, 15, 0}, {15, 15, 7}};
        for (int[] p : houses) {
            ScaleShop x = new ScaleShop();
            int house = house(x, 10, 10, 20, 20);
            there(x, POINT, p[0], p[1]);
            answered(x, "a HOUSE over " + p[0] + ", " + p[1], x.shift(house, 0, 50, 0, 0), p[2]);
        }
    }

    private static void sweptDiagonal() {
        sentence = "SWEPT: the triangles a b b' and a a' b', not those by the other diagonal";
        int[][] points = {{120, 52, 0}, {120, 56, 0}, {120, 57, 7}, {120, 58, 7}, {120, 79, 7}, {120, 85, 7},
            {120, 87, 7}, {120, 88, 0}};
        for (int[] p : points) {
            ScaleShop x = new ScaleShop();
            int line = there(x, LINE, 0, 50, 100, 100, 200, 0, 300, 50);
            there(x, POINT, p[0], p[1]);
            answered(x, "smooth() beside " + p[0] + ", " + p[1], x.smooth(line), p[2]);
        }
    }

    private static void sweptSpares() {
        sentence = "SWEPT: but a where a' is a, b where b' is b";
        lifted("a", 0, LINE, 100, 100, 100, 300);
        lifted("one beyond a", 7, LINE, 101, 100, 101, 300);
        lifted("b", 0, LINE, 300, 100, 300, 300);
        lifted("one before b", 7, LINE, 299, 100, 299, 300);
        lifted("a POINT at a", 0, POINT, 100, 100);
        lifted("a POINT at b", 0, POINT, 300, 100);
        // CORNER 2 moves by half, so what stands there is swept, though both meet before and then.
        int[][] reaches = {{0, 0}, {1, 7}};
        for (int[] reach : reaches) {
            ScaleShop x = new ScaleShop();
            int line = there(x, LINE, 100, 100, 200, 100, 300, 100, 400, 100);
            there(x, LINE, 300, 100, 300, 300);
            answered(x, "a CORNER at one that moves, n " + reach[0], x.shift(line, 1, 0, 60, reach[0]), reach[1]);
        }
        ScaleShop x = new ScaleShop();
        int house = house(x, 100, 100, 120, 120);
        there(x, LINE, 100, 100, 50, 50);
        granted(x, "CORNER 0 of a HOUSE that grows", x.grow(house));
    }

    private static void sweptEdgeThatStays() {
        sentence = "SWEPT: but all of an EDGE that stays";
        int[][] points = {{298, 7}, {299, 7}, {300, 0}, {301, 0}, {350, 0}, {400, 0}, {401, 0}};
        for (int[] p : points) {
            ScaleShop x = new ScaleShop();
            int line = there(x, LINE, 100, 100, 200, 100, 300, 100, 400, 100);
            there(x, LINE, p[0], 100, p[0], 300);
            answered(x, "CORNER at " + p[0], x.shift(line, 1, 0, 60, 0), p[1]);
        }
        ScaleShop x = new ScaleShop();
        int area = there(x, AREA, 100, 100, 200, 100, 200, 200, 100, 200);
        there(x, POINT, 200, 150);
        there(x, POINT, 150, 100);
        granted(x, "both EDGES beside CORNER 1", x.shift(area, 3, -10, 10, 0));
        refused(x, "those that move", x.shift(area, 1, 10, -10, 0), 7);
    }

    /** Takes the peak from an arch, with another FEATURE beside it. */
    private static void flattened(String what, int went, int kind, int... places) {
        ScaleShop x = new ScaleShop();
        int arch = there(x, LINE, 100, 100, 150, 140, 200, 100);
        there(x, kind, places);
        due(what + " " + Arrays.toString(places), x.plainer(arch, 4000), went);
        due(what + ", status", x.status(), went == NONE ? 8 : 0);
        due(what + ", refusals by 7", x.count(7), 0);
    }

    private static void sweptWhereACornerGoes() {
        sentence = "SWEPT, where CORNER b between a and c goes: the triangle a b c (its EDGES too), but a and c";
        flattened("in it", NONE, POINT, 150, 120);
        flattened("just above a to c", NONE, POINT, 150, 101);
        flattened("on a to c", NONE, POINT, 150, 100);
        flattened("just below a to c", 1, POINT, 150, 99);
        flattened("just below b", NONE, POINT, 150, 139);
        flattened("at b", NONE, POINT, 150, 140);
        flattened("just above b", 1, POINT, 150, 141);
        flattened("on a to b, it meets before and then", NONE, LINE, 125, 120, 125, 50);
        flattened("just above a to b", 1, LINE, 125, 121, 125, 50);
        flattened("just below a to b", NONE, LINE, 125, 119, 125, 50);
        flattened("on b to c, it meets before and then", NONE, LINE, 175, 120, 175, 50);
        flattened("just above b to c", 1, LINE, 175, 121, 175, 50);
        flattened("on a to c, it meets before and then", NONE, LINE, 125, 100, 125, 300);
        flattened("just below a to c", 1, LINE, 125, 99, 125, 300);
        flattened("a", 1, LINE, 100, 100, 100, 50);
        flattened("one beyond a, on a to c", NONE, LINE, 101, 100, 101, 300);
        flattened("c", 1, LINE, 200, 100, 200, 50);
        flattened("one before c, on a to c", NONE, LINE, 199, 100, 199, 300);
        flattened("a POINT at a", 1, POINT, 100, 100);
        flattened("a POINT at c", 1, POINT, 200, 100);
    }

    private static void sweptNotBySquare() {
        sentence = "SWEPT, where CORNERS of LINES and RINGS move (not by SQUARE)";
        ScaleShop x = new ScaleShop();
        int area = there(x, AREA, 100, 100, 200, 100, 200, 200, 150, 150, 100, 200);
        there(x, LINE, 150, 100, 150, 300);
        granted(x, "a CORNER on an EDGE of the box", x.square(area, 5000));
        ScaleShop y = new ScaleShop();
        int turned = there(y, AREA, 200, 200, 100, 200, 100, 100, 200, 100);
        there(y, POINT, 150, 150);
        there(y, POINT, 100, 150);
        there(y, POINT, 200, 200);
        granted(y, "CORNERS that change their places", y.square(turned, 0));
        row(y, "the box", turned, 100, 100, 200, 100, 200, 200, 100, 200);
    }

    private static void sweptWithoutArea() {
        sentence = "(A triangle without area is the longest one of its EDGES.)";
        int[][] corners = {{99, 0}, {100, 0}, {101, 7}, {120, 7}, {149, 7}, {150, 7}, {160, 7}, {170, 7}, {171, 7},
            {199, 7}, {200, 0}, {201, 0}};
        for (int[] c : corners) {
            ScaleShop x = new ScaleShop();
            int flat = there(x, LINE, 100, 100, 150, 100, 200, 100);
            there(x, LINE, c[0], 100, c[0], 50);
            answered(x, "along itself over " + c[0], x.shift(flat, 1, 20, 0, 0), c[1]);
        }
        int[][] gone = {{99, 1}, {100, 1}, {101, NONE}, {149, NONE}, {150, NONE}, {151, NONE}, {199, NONE}, {200, 1}};
        for (int[] c : gone) {
            ScaleShop x = new ScaleShop();
            int flat = there(x, LINE, 100, 100, 150, 100, 200, 100);
            there(x, LINE, c[0], 100, c[0], 50);
            due("plainer() with a CORNER at " + c[0], x.plainer(flat, 0), c[1]);
        }
    }

    // What is refused

    private static final int ARCH = 0;
    private static final int BELOW_ARCH = 1;
    private static final int FIRST_HOUSE = 2;
    private static final int SECOND_HOUSE = 3;
    private static final int SLANTED = 4;
    private static final int OPEN_LINE = 5;
    private static final int TORN_LINE = 6;
    private static final int TORN_HOUSE = 7;
    private static final int TORN_AREA = 8;
    private static final int GONE_POINT = 9;
    private static final int OPEN_TORN = 10;
    private static final int OPEN_POINT = 11;
    private static final int TWO_CORNERS = 12;
    private static final int NO_FEATURE = 15;

    /** A sheet with FEATURES in all states, a STEP that is done and one that is undone. */
    private static ScaleShop scene() {
        ScaleShop x = new ScaleShop();
        there(x, LINE, 0, 100, 50, 110, 100, 100);
        there(x, POINT, 50, 105);
        house(x, 200, 200, 220, 220);
        house(x, 225, 200, 240, 220);
        there(x, AREA, 300, 300, 340, 300, 340, 340, 301, 340);
        open(x, LINE, 600, 600);
        torn(x, LINE, 600, 700, 650, 700, 700, 700);
        torn(x, HOUSE, box(600, 800, 610, 810));
        torn(x, AREA, box(700, 800, 710, 810));
        there(x, POINT, 900, 900);
        x.tear(open(x, LINE, 5, 5, 6, 6));
        open(x, POINT, 500, 500);
        there(x, BORDER, 0, 500, 10, 500);
        there(x, POINT, 300, 320);
        there(x, POINT, 222, 210);
        x.drop(GONE_POINT);
        x.shift(SLANTED, 2, 5, 5, 0);
        x.undo();
        return x;
    }

    /** Asks the scene, and compares it with one that was not asked. */
    private static void unchanged(String what, int why, Call call) {
        ScaleShop x = scene();
        due(what, call.on(x), NONE);
        due(what + ", status", x.status(), why);
        due(what + ", refusals by 7", x.count(7), why == 7 ? 1 : 0);
        yes(what + ", nothing else is changed", picture(x).equals(picture(scene())));
        due(what + ", what was undone can be done again", x.redo(), 2);
    }

    /** As a number that is NONE if the answer is false. */
    private static long told(boolean answer) {
        return answer ? 1 : NONE;
    }

    private static void refusedWhileMaking() {
        sentence = "REFUSED calls change nothing but STATUS, the first that holds: feature(), corner(), tear(), done()";
        unchanged("feature kind", 4, x -> x.feature(7, 0, 0, 0));
        unchanged("feature rank", 4, x -> x.feature(0, 10, 0, 0));
        unchanged("feature width", 4, x -> x.feature(0, 0, 101, 0));
        unchanged("feature town", 4, x -> x.feature(0, 0, 0, 10));
        unchanged("corner 1", 1, x -> x.corner(NO_FEATURE, -1, -1));
        unchanged("corner 1", 1, x -> x.corner(-1, 5, 5));
        unchanged("corner 2 before 4", 2, x -> x.corner(ARCH, -1, -1));
        unchanged("corner 2 before 5", 2, x -> x.corner(TORN_LINE, 5, 5));
        unchanged("corner 2 before 6", 2, x -> x.corner(BELOW_ARCH, 5, 5));
        unchanged("corner 2 of a GONE one", 2, x -> x.corner(GONE_POINT, 5, 5));
        unchanged("corner 4", 4, x -> x.corner(OPEN_LINE, 5, 1001));
        unchanged("corner 4 before 5", 4, x -> x.corner(OPEN_TORN, -1, 5));
        unchanged("corner 4 before 6", 4, x -> x.corner(OPEN_POINT, 5, -1));
        unchanged("corner 5", 5, x -> x.corner(OPEN_TORN, 5, 5));
        unchanged("corner 6", 6, x -> x.corner(OPEN_POINT, 5, 5));
        unchanged("tear 1", 1, x -> told(x.tear(NO_FEATURE)));
        unchanged("tear 1", 1, x -> told(x.tear(-1)));
        unchanged("tear 2", 2, x -> told(x.tear(GONE_POINT)));
        unchanged("tear 5", 5, x -> told(x.tear(TORN_LINE)));
        unchanged("tear 5 of an OPEN one", 5, x -> told(x.tear(OPEN_TORN)));
        unchanged("done 1", 1, x -> told(x.done(NO_FEATURE)));
        unchanged("done 1", 1, x -> told(x.done(-1)));
        unchanged("done 2", 2, x -> told(x.done(ARCH)));
        unchanged("done 2 before 5", 2, x -> told(x.done(TORN_LINE)));
        unchanged("done 2 of a GONE one", 2, x -> told(x.done(GONE_POINT)));
        unchanged("done 5 before 6", 5, x -> told(x.done(OPEN_TORN)));
        unchanged("done 6", 6, x -> told(x.done(OPEN_LINE)));
    }

    private static void refusedPlainer() {
        sentence = "REFUSED calls change nothing but STATUS, the first that holds: plainer(): 1, 2, 3, 4, 5, 8";
        unchanged("1 before 4", 1, x -> x.plainer(NO_FEATURE, -1));
        unchanged("1", 1, x -> x.plainer(-1, 5));
        unchanged("2 OPEN", 2, x -> x.plainer(OPEN_LINE, 5));
        unchanged("2 before 3", 2, x -> x.plainer(OPEN_POINT, -1));
        unchanged("2 before 5", 2, x -> x.plainer(OPEN_TORN, -1));
        unchanged("2 GONE", 2, x -> x.plainer(GONE_POINT, -1));
        unchanged("3 POINT, before 4", 3, x -> x.plainer(BELOW_ARCH, -1));
        unchanged("3 HOUSE", 3, x -> x.plainer(FIRST_HOUSE, 5));
        unchanged("3 before 5", 3, x -> x.plainer(TORN_HOUSE, 5));
        unchanged("4", 4, x -> x.plainer(ARCH, -1));
        unchanged("4", 4, x -> x.plainer(ARCH, LEAST));
        unchanged("4 before 5", 4, x -> x.plainer(TORN_LINE, -1));
        unchanged("5", 5, x -> x.plainer(TORN_LINE, 0));
        unchanged("5", 5, x -> x.plainer(TORN_AREA, GREATEST));
        unchanged("8, none at most limit", 8, x -> x.plainer(ARCH, 0));
        unchanged("8, none may go LAWFULLY", 8, x -> x.plainer(ARCH, GREATEST));
        unchanged("8, ends only", 8, x -> x.plainer(TWO_CORNERS, GREATEST));
    }

    private static void refusedSmooth() {
        sentence = "REFUSED calls change nothing but STATUS, the first that holds: smooth(): 1, 2, 3, 5, 7, 8";
        unchanged("1", 1, x -> told(x.smooth(NO_FEATURE)));
        unchanged("1", 1, x -> told(x.smooth(-1)));
        unchanged("2 OPEN", 2, x -> told(x.smooth(OPEN_LINE)));
        unchanged("2 before 3", 2, x -> told(x.smooth(OPEN_POINT)));
        unchanged("2 before 5", 2, x -> told(x.smooth(OPEN_TORN)));
        unchanged("2 GONE", 2, x -> told(x.smooth(GONE_POINT)));
        unchanged("3 POINT", 3, x -> told(x.smooth(BELOW_ARCH)));
        unchanged("3 HOUSE", 3, x -> told(x.smooth(FIRST_HOUSE)));
        unchanged("3 before 5", 3, x -> told(x.smooth(TORN_HOUSE)));
        unchanged("5", 5, x -> told(x.smooth(TORN_LINE)));
        unchanged("5", 5, x -> told(x.smooth(TORN_AREA)));
        unchanged("7", 7, x -> told(x.smooth(ARCH)));
        unchanged("8", 8, x -> told(x.smooth(TWO_CORNERS)));
    }

    private static void refusedShift() {
        sentence = "REFUSED calls change nothing but STATUS, the first that holds: shift(): 1, 2, 4, 5, 7, 8";
        unchanged("1 before 4", 1, x -> told(x.shift(NO_FEATURE, 0, 999, 0, 0)));
        unchanged("1", 1, x -> told(x.shift(-1, 0, 1, 1, 0)));
        unchanged("1 CORNER -1", 1, x -> told(x.shift(ARCH, -1, 1, 1, 0)));
        unchanged("1 CORNER 3, before 4", 1, x -> told(x.shift(ARCH, 3, 999, 1, 0)));
        unchanged("1 CORNER of a POINT", 1, x -> told(x.shift(BELOW_ARCH, 1, 1, 1, 0)));
        unchanged("1 CORNER of a HOUSE", 1, x -> told(x.shift(FIRST_HOUSE, 4, 1, 1, 0)));
        unchanged("1 CORNER of an AREA", 1, x -> told(x.shift(SLANTED, 4, 1, 1, 0)));
        unchanged("1 CORNER, before 2", 1, x -> told(x.shift(OPEN_LINE, 1, 1, 1, 0)));
        unchanged("1 CORNER of a TORN one, before 5", 1, x -> told(x.shift(TORN_LINE, -1, 1, 1, 0)));
        unchanged("2 OPEN, before 4", 2, x -> told(x.shift(OPEN_LINE, 0, 201, 0, 0)));
        unchanged("2 before 5", 2, x -> told(x.shift(OPEN_TORN, 0, 1, 0, 0)));
        unchanged("2 GONE", 2, x -> told(x.shift(GONE_POINT, 0, 1, 0, 0)));
        unchanged("4 dx", 4, x -> told(x.shift(ARCH, 1, -201, 0, 0)));
        unchanged("4 dy", 4, x -> told(x.shift(ARCH, 1, 0, 201, 0)));
        unchanged("4 n, before 7", 4, x -> told(x.shift(ARCH, 1, 0, -10, 21)));
        unchanged("4 n, before 8", 4, x -> told(x.shift(ARCH, 1, 0, 0, -1)));
        unchanged("4 before 5", 4, x -> told(x.shift(TORN_LINE, 0, 201, 0, 0)));
        unchanged("5", 5, x -> told(x.shift(TORN_LINE, 0, 1, 0, 0)));
        unchanged("5 before 8", 5, x -> told(x.shift(TORN_HOUSE, 0, 0, 0, 0)));
        unchanged("7 LINE", 7, x -> told(x.shift(ARCH, 1, 0, -10, 0)));
        unchanged("7 POINT", 7, x -> told(x.shift(BELOW_ARCH, 0, 0, 5, 0)));
        unchanged("7 HOUSE", 7, x -> told(x.shift(FIRST_HOUSE, 0, 2, 0, 0)));
        unchanged("7 AREA", 7, x -> told(x.shift(SLANTED, 0, -10, 0, 20)));
        unchanged("8 ends stay", 8, x -> told(x.shift(TWO_CORNERS, 0, 5, 5, 20)));
        unchanged("8 by nothing", 8, x -> told(x.shift(FIRST_HOUSE, 0, 0, 0, 20)));
    }

    private static void refusedGrowAndSquare() {
        sentence = "REFUSED calls change nothing but STATUS, the first that holds: grow(): 1, 2, 3, 5, 7";
        unchanged("1", 1, x -> told(x.grow(NO_FEATURE)));
        unchanged("1", 1, x -> told(x.grow(-1)));
        unchanged("2 before 3", 2, x -> told(x.grow(OPEN_LINE)));
        unchanged("2 before 5", 2, x -> told(x.grow(OPEN_TORN)));
        unchanged("2 GONE", 2, x -> told(x.grow(GONE_POINT)));
        unchanged("3 LINE", 3, x -> told(x.grow(ARCH)));
        unchanged("3 POINT", 3, x -> told(x.grow(BELOW_ARCH)));
        unchanged("3 AREA", 3, x -> told(x.grow(SLANTED)));
        unchanged("3 before 5", 3, x -> told(x.grow(TORN_AREA)));
        unchanged("5", 5, x -> told(x.grow(TORN_HOUSE)));
        unchanged("7", 7, x -> told(x.grow(FIRST_HOUSE)));
        sentence = "REFUSED calls change nothing but STATUS, the first that holds: square(): 1, 2, 3, 4, 5, 7";
        unchanged("1 before 4", 1, x -> told(x.square(NO_FEATURE, -1)));
        unchanged("1", 1, x -> told(x.square(-1, 0)));
        unchanged("2 before 3", 2, x -> told(x.square(OPEN_LINE, -1)));
        unchanged("2 GONE", 2, x -> told(x.square(GONE_POINT, 0)));
        unchanged("3 LINE, before 4", 3, x -> told(x.square(ARCH, -1)));
        unchanged("3 HOUSE", 3, x -> told(x.square(FIRST_HOUSE, 0)));
        unchanged("3 before 5", 3, x -> told(x.square(TORN_HOUSE, 0)));
        unchanged("4", 4, x -> told(x.square(SLANTED, -1)));
        unchanged("4 before 7", 4, x -> told(x.square(SLANTED, 39)));
        unchanged("4 before 5", 4, x -> told(x.square(TORN_AREA, -1)));
        unchanged("5", 5, x -> told(x.square(TORN_AREA, 0)));
        unchanged("5", 5, x -> told(x.square(TORN_AREA, GREATEST)));
        unchanged("7", 7, x -> told(x.square(SLANTED, 40)));
    }

    private static void refusedJoin() {
        sentence = "REFUSED calls change nothing but STATUS, the first that holds: join(): 1, 2, 3, 4, 5, 7, 8";
        unchanged("1 first, before 4", 1, x -> x.join(-1, SECOND_HOUSE, -1));
        unchanged("1 second, before 4", 1, x -> x.join(FIRST_HOUSE, NO_FEATURE, -1));
        unchanged("1 second, before 2", 1, x -> x.join(OPEN_LINE, -1, 0));
        unchanged("2 first, before 3", 2, x -> x.join(OPEN_LINE, ARCH, -1));
        unchanged("2 second, before 3", 2, x -> x.join(ARCH, OPEN_LINE, -1));
        unchanged("2 GONE", 2, x -> x.join(FIRST_HOUSE, GONE_POINT, 5));
        unchanged("3 first, before 4", 3, x -> x.join(SLANTED, FIRST_HOUSE, -1));
        unchanged("3 second, before 4", 3, x -> x.join(FIRST_HOUSE, BELOW_ARCH, 1001));
        unchanged("3 before 5", 3, x -> x.join(TORN_HOUSE, ARCH, 0));
        unchanged("4 gap", 4, x -> x.join(FIRST_HOUSE, SECOND_HOUSE, -1));
        unchanged("4 gap", 4, x -> x.join(FIRST_HOUSE, SECOND_HOUSE, 1001));
        unchanged("4 gap, before 5", 4, x -> x.join(FIRST_HOUSE, TORN_HOUSE, -1));
        unchanged("4 gap, before 8", 4, x -> x.join(FIRST_HOUSE, FIRST_HOUSE, -1));
        unchanged("4 DISTANCE, before 7", 4, x -> x.join(FIRST_HOUSE, SECOND_HOUSE, 4));
        unchanged("5 second", 5, x -> x.join(FIRST_HOUSE, TORN_HOUSE, 1000));
        unchanged("5 first", 5, x -> x.join(TORN_HOUSE, SECOND_HOUSE, 0));
        unchanged("5 before 8", 5, x -> x.join(TORN_HOUSE, TORN_HOUSE, 0));
        unchanged("7", 7, x -> x.join(FIRST_HOUSE, SECOND_HOUSE, 5));
        unchanged("8 both are one", 8, x -> x.join(FIRST_HOUSE, FIRST_HOUSE, 0));
    }

    private static void refusedOfMany() {
        sentence = "REFUSED calls change nothing but STATUS, the first that holds: drop(), few(), choose(), run()";
        unchanged("drop 1", 1, x -> told(x.drop(NO_FEATURE)));
        unchanged("drop 1", 1, x -> told(x.drop(-1)));
        unchanged("drop 2 OPEN", 2, x -> told(x.drop(OPEN_LINE)));
        unchanged("drop 2 GONE", 2, x -> told(x.drop(GONE_POINT)));
        unchanged("drop 2 before 5", 2, x -> told(x.drop(OPEN_TORN)));
        unchanged("drop 5", 5, x -> told(x.drop(TORN_LINE)));
        unchanged("few 4 least", 4, x -> x.few(-1, 0));
        unchanged("few 4 many", 4, x -> x.few(5, -1));
        unchanged("few 4 many", 4, x -> x.few(1000, 201));
        unchanged("few 4 before 8", 4, x -> x.few(0, 201));
        unchanged("few 8", 8, x -> x.few(0, 0));
        unchanged("few 8", 8, x -> x.few(1000000, 2));
        unchanged("choose 8", 8, x -> x.choose());
        unchanged("run 4", 4, x -> x.run(-1));
        unchanged("run 4", 4, x -> x.run(LEAST));
        unchanged("run 8", 8, x -> x.run(0));
    }

    private static void refusedUndoAndRedo() {
        sentence = "REFUSED calls change nothing but STATUS: undo(), redo(): 8";
        ScaleShop x = scene();
        ScaleShop y = scene();
        x.undo();
        y.undo();
        refused(x, "undo() with none done", x.undo(), 8);
        yes("nothing else is changed", picture(x).equals(picture(y)));
        ScaleShop z = scene();
        ScaleShop w = scene();
        z.redo();
        w.redo();
        refused(z, "redo() with none undone", z.redo(), 8);
        yes("nothing else is changed", picture(z).equals(picture(w)));
    }

    /** After a call that is refused, one that is done. */
    private static void clears(String what, long answer, Call call) {
        ScaleShop x = new ScaleShop();
        there(x, LINE, 0, 100, 50, 110, 100, 100);
        house(x, 200, 200, 220, 220);
        house(x, 225, 200, 240, 220);
        there(x, AREA, 300, 300, 340, 300, 340, 340, 300, 340);
        there(x, ROAD, 0, 500, 10, 500);
        there(x, ROAD, 0, 500, 5, 505, 10, 500);
        open(x, POINT, 900, 900);
        x.shift(1, 0, -1, 0, 0);
        x.shift(1, 0, 1, 0, 0);
        x.undo();
        x.drop(-1);
        due(what + ", status before", x.status(), 1);
        due(what, call.on(x), answer);
        due(what + ", status", x.status(), 0);
    }

    private static void doneSetsStatus() {
        sentence = "STATUS: what is done sets it to 0";
        clears("feature()", 7, x -> x.feature(0, 0, 0, 0));
        clears("tear()", 1, x -> told(x.tear(6)));
        clears("done()", 1, x -> told(x.done(6)));
        clears("plainer()", 1, x -> x.plainer(0, 1000));
        clears("smooth()", 1, x -> told(x.smooth(0)));
        clears("shift()", 1, x -> told(x.shift(0, 1, 1, 1, 0)));
        clears("grow()", 1, x -> told(x.grow(2)));
        clears("square()", 1, x -> told(x.square(3, 0)));
        clears("join()", 7, x -> x.join(1, 2, 6));
        clears("drop()", 1, x -> told(x.drop(0)));
        clears("few()", 2, x -> x.few(1000000, 0));
        clears("choose()", 1, x -> x.choose());
        clears("run()", 2, x -> x.run(1000));
        clears("undo()", 1, x -> x.undo());
        clears("redo()", 2, x -> x.redo());
        ScaleShop x = new ScaleShop();
        int line = open(x, LINE);
        x.done(line);
        due("corner(), status before", x.status(), 6);
        due("corner()", x.corner(line, 5, 5), 1);
        due("corner(), status", x.status(), 0);
    }

    private static void tellingLeavesStatus() {
        sentence = "STATUS: what only tells (from meets() on) leaves it";
        Call[] tells = {
            x -> number(x.meets(0, 1)), x -> number(x.meets(-1, 99)), x -> x.inside(5, 5, 2), x -> x.inside(-1, 5, 0),
            x -> x.side(5, 5, 0, 0), x -> x.side(-1, 5, 99, 9), x -> x.near(0, 1, 0), x -> x.near(0, 99, 7),
            x -> x.clashes(5), x -> x.clashes(-1), x -> x.clash(5, 0, 0), x -> x.clash(-1, -1, 9), x -> x.far(0, 0),
            x -> x.far(99, 9), x -> x.size(0), x -> x.size(99), x -> x.at(0, 0, 0), x -> x.at(99, 9, 9),
            x -> x.told(0, 0), x -> x.told(99, 99), x -> x.step(1, 0), x -> x.step(99, 99), x -> x.count(0),
            x -> x.count(99), x -> x.status()};
        for (int why = 0; why <= 8; why++) {
            ScaleShop x = scene();
            bringStatus(x, why);
            due("status before", x.status(), why);
            for (int i = 0; i < tells.length; i++) {
                tells[i].on(x);
                due("status behind tell " + i, x.status(), why);
            }
        }
    }

    private static void bringStatus(ScaleShop x, int why) {
        switch (why) {
            case 0: x.redo(); break;
            case 1: x.drop(-1); break;
            case 2: x.drop(OPEN_LINE); break;
            case 3: x.grow(ARCH); break;
            case 4: x.run(-1); break;
            case 5: x.drop(TORN_LINE); break;
            case 6: x.done(OPEN_LINE); break;
            case 7: x.grow(FIRST_HOUSE); break;
            default: x.choose(); break;
        }
    }

    // Promises 1 to 5

    private static void emptySheet() {
        sentence = "Promise 1: An empty sheet";
        for (int what = 0; what <= 7; what++) {
            due("count(" + what + ")", new ScaleShop().count(what), 0);
        }
        Call[] asks = {x -> x.told(0, 0), x -> x.at(0, 0, 0), x -> x.size(0), x -> x.step(1, 0), x -> x.far(0, 0),
            x -> x.near(0, 0, 0), x -> x.inside(0, 0, 0), x -> x.clash(0, 0, 0), x -> told(x.meets(0, 0))};
        for (int i = 0; i < asks.length; i++) {
            due("ask " + i, asks[i].on(new ScaleShop()), NONE);
        }
        due("side()", new ScaleShop().side(0, 0, 0, 0), 0);
        due("clashes()", new ScaleShop().clashes(200), 0);
        Call[] ones = {x -> x.corner(0, 0, 0), x -> told(x.tear(0)), x -> told(x.done(0)), x -> x.plainer(0, 0),
            x -> told(x.smooth(0)), x -> told(x.shift(0, 0, 0, 0, 0)), x -> told(x.grow(0)), x -> told(x.square(0, 0)),
            x -> x.join(0, 0, 0), x -> told(x.drop(0))};
        for (int i = 0; i < ones.length; i++) {
            ScaleShop x = new ScaleShop();
            refused(x, "one " + i, ones[i].on(x), 1);
        }
        Call[] alls = {x -> x.few(GREATEST, 0), x -> x.choose(), x -> x.run(GREATEST), x -> x.undo(), x -> x.redo()};
        for (int i = 0; i < alls.length; i++) {
            ScaleShop x = new ScaleShop();
            refused(x, "all " + i, alls[i].on(x), 8);
        }
        ScaleShop first = new ScaleShop();
        ScaleShop second = new ScaleShop();
        first.feature(POINT, 0, 0, 0);
        due("of its own", second.count(0), 0);
    }

    private static void featureBounds() {
        sentence = "Promise 2: kind 0 .. 6, rank 0 .. 9, width 0 .. 100, town 0 .. 9";
        int[] most = {6, 9, 100, 9};
        for (int i = 0; i < most.length; i++) {
            int[][] values = {{LEAST, 4}, {-1, 4}, {0, 0}, {1, 0}, {most[i] - 1, 0}, {most[i], 0}, {most[i] + 1, 4},
                {GREATEST, 4}};
            ScaleShop x = new ScaleShop();
            int made = 0;
            for (int[] value : values) {
                int[] all = {1, 1, 1, 1};
                all[i] = value[0];
                int answer = x.feature(all[0], all[1], all[2], all[3]);
                due("number " + i + " of " + value[0], answer, value[1] == 0 ? made : NONE);
                due("number " + i + " of " + value[0] + ", status", x.status(), value[1]);
                for (int what = 0; what < 4 && value[1] == 0; what++) {
                    due("told " + what, x.told(made, what), all[what]);
                }
                made += value[1] == 0 ? 1 : 0;
            }
            due("how many", x.count(0), made);
        }
    }

    private static void featureRoom() {
        sentence = "Promise 2: 8";
        ScaleShop x = new ScaleShop();
        for (int i = 0; i < 199; i++) {
            x.feature(POINT, 0, 0, 0);
        }
        due("the 200th", x.feature(LINE, 0, 0, 0), 199);
        refused(x, "the 201st", x.feature(LINE, 0, 0, 0), 8);
        refused(x, "4 before 8", x.feature(LINE, 0, 0, 10), 4);
        x.corner(0, 5, 5);
        x.done(0);
        x.drop(0);
        refused(x, "a GONE one leaves no room", x.feature(LINE, 0, 0, 0), 8);
        due("undo() is not barred by what is refused", x.undo(), 1);
    }

    private static void cornerTooMany() {
        sentence = "Promise 3: A CORNER behind the others: how many it has; 6: it would have too many";
        for (int kind = POINT; kind <= HOUSE; kind++) {
            ScaleShop x = new ScaleShop();
            int number = open(x, kind);
            int most = kind == POINT ? 1 : 40;
            for (int k = 0; k < most; k++) {
                due("kind " + kind, x.corner(number, k, 1000 - k), k + 1);
            }
            refused(x, "kind " + kind + ", one more", x.corner(number, 999, 999), 6);
            due("kind " + kind + ", the last one's x", x.at(number, most - 1, 0), most - 1);
            due("kind " + kind + ", the last one's y", x.at(number, most - 1, 1), 1001 - most);
            due("kind " + kind + ", none behind it", x.at(number, most, 0), NONE);
        }
    }

    private static void tearAlready() {
        sentence = "Promise 4: An OPEN FEATURE's row goes on missing, or one that is THERE is TORN";
        ScaleShop x = new ScaleShop();
        int empty = open(x, LINE);
        granted(x, "without CORNERS", x.tear(empty));
        refused(x, "already", x.tear(empty), 5);
        due("OPEN still", x.told(empty, 5), 0);
        refused(x, "no CORNER any more", x.corner(empty, 5, 5), 5);
        refused(x, "never THERE", x.done(empty), 5);
        int line = there(x, LINE, 0, 0, 9, 0);
        granted(x, "THERE", x.tear(line));
        due("THERE still", x.told(line, 5), 1);
        due("TORN", x.told(line, 6), 1);
        due("its CORNERS", x.told(line, 4), 0);
        refused(x, "already", x.tear(line), 5);
        refused(x, "it cannot go", x.drop(line), 5);
        int point = there(x, POINT, 50, 50);
        x.drop(point);
        refused(x, "GONE", x.tear(point), 2);
        x.undo();
        granted(x, "THERE again", x.tear(point));
        due("TORN in all", x.count(3), 3);
    }

    private static void doneTooFew() {
        sentence = "Promise 5: An OPEN FEATURE is THERE. 1, 2, 5, 6";
        ScaleShop x = new ScaleShop();
        int area = open(x, AREA, 0, 0, 10, 0);
        refused(x, "too few", x.done(area), 6);
        x.corner(area, 20, 0);
        refused(x, "enough, not SIMPLE", x.done(area), 6);
        due("OPEN still", x.told(area, 5), 0);
        x.corner(area, 10, 10);
        granted(x, "one more makes it SIMPLE", x.done(area));
        refused(x, "THERE already", x.done(area), 2);
        refused(x, "no CORNER any more", x.corner(area, 5, 10), 2);
        int meeting = open(x, LINE, 0, 5, 50, 5);
        granted(x, "whom it meets does not matter", x.done(meeting));
    }

    // Promises 6 to 12

    private static void plainerLimit() {
        sentence = "Promise 6: the triangle has an area whose double is at most limit; 4: limit below 0";
        int[][] limits = {{LEAST, NONE, 4}, {-1, NONE, 4}, {0, NONE, 8}, {19, NONE, 8}, {20, 1, 0}, {21, 1, 0},
            {GREATEST, 1, 0}};
        for (int[] limit : limits) {
            ScaleShop x = new ScaleShop();
            int line = there(x, LINE, 0, 10, 10, 9, 20, 10);
            due("limit " + limit[0], x.plainer(line, limit[0]), limit[1]);
            due("limit " + limit[0] + ", status", x.status(), limit[2]);
        }
        ScaleShop x = new ScaleShop();
        int flat = there(x, RIVER, 0, 10, 10, 10, 20, 10);
        due("limit 0, area 0", x.plainer(flat, 0), 1);
        int least = there(x, BORDER, 0, 20, 1, 20, 1, 21);
        due("limit 0, double area 1", x.plainer(least, 0), NONE);
        due("limit 1, double area 1", x.plainer(least, 1), 1);
    }

    private static void plainerOrder() {
        sentence = "Promise 6: the one with the least (of several the least number), which may go LAWFULLY, goes";
        ScaleShop x = new ScaleShop();
        int three = there(x, LINE, 0, 0, 10, 5, 20, 0, 30, 4, 40, 0);
        // 100, 90, 80: the least one is CORNER 3; then CORNER 2 has 100 with 40, 0 and CORNER 1 has it, too.
        due("the least one goes", x.plainer(three, 80), 1);
        row(x, "CORNER 3 went", three, 0, 0, 10, 5, 20, 0, 40, 0);
        ScaleShop y = new ScaleShop();
        int alike = there(y, LINE, 0, 0, 10, 5, 20, 0, 30, 5, 40, 0);
        due("of several the least number, then the others have more", y.plainer(alike, 100), 2);
        row(y, "CORNER 1 went, then what was CORNER 2", alike, 0, 0, 30, 5, 40, 0);
        ScaleShop z = new ScaleShop();
        int held = there(z, LINE, 0, 0, 10, 5, 20, 0, 30, 6, 40, 0);
        there(z, POINT, 10, 4);
        due("the least one may not, so the next may", z.plainer(held, 110), 1);
        row(z, "CORNER 2 went", held, 0, 0, 10, 5, 30, 6, 40, 0);
        ScaleShop w = new ScaleShop();
        int again = there(w, LINE, 0, 0, 10, 1, 20, 4, 30, 9, 40, 16, 50, 25);
        due("again and again", w.plainer(again, GREATEST), 4);
        row(w, "the ends", again, 0, 0, 50, 25);
        due("one STEP", w.count(5), 1);
        due("how many went", w.step(1, 2), 4);
    }

    private static void plainerEnds() {
        sentence = "Promise 6: of the CORNERS that are no ends of LINES";
        for (int kind = LINE; kind <= BORDER; kind++) {
            ScaleShop x = new ScaleShop();
            int three = there(x, kind, 0, 0, 10, 1, 20, 0);
            due("of three one goes", x.plainer(three, GREATEST), 1);
            row(x, "the ends", three, 0, 0, 20, 0);
            refused(x, "of two none", x.plainer(three, GREATEST), 8);
        }
    }

    private static void plainerRound() {
        sentence = "Promise 6: of a RING the CORNERS have neighbours round its begin";
        ScaleShop x = new ScaleShop();
        int first = there(x, AREA, 50, 99, 100, 100, 100, 200, 0, 200, 0, 100);
        refused(x, "CORNER 0, too low a limit", x.plainer(first, 99), 8);
        due("CORNER 0", x.plainer(first, 100), 1);
        row(x, "CORNER 0 went", first, 100, 100, 100, 200, 0, 200, 0, 100);
        ScaleShop y = new ScaleShop();
        int last = there(y, AREA, 100, 100, 100, 200, 0, 200, 0, 100, 50, 99);
        refused(y, "the last one, too low a limit", y.plainer(last, 99), 8);
        due("the last one", y.plainer(last, 100), 1);
        row(y, "the last one went", last, 100, 100, 100, 200, 0, 200, 0, 100);
    }

    private static void plainerOfThree() {
        sentence = "Promise 6: none goes of a RING of three";
        ScaleShop x = new ScaleShop();
        int three = there(x, AREA, 0, 0, 1, 0, 0, 1);
        refused(x, "three", x.plainer(three, GREATEST), 8);
        int four = there(x, AREA, 10, 0, 20, 0, 20, 10, 10, 10);
        due("four", x.plainer(four, GREATEST), 1);
        row(x, "of alike ones the least number went", four, 20, 0, 20, 10, 10, 10);
        refused(x, "three again", x.plainer(four, GREATEST), 8);
    }

    /** An arch of 40 CORNERS, bent everywhere. */
    private static int[] bow() {
        int[] places = new int[80];
        for (int i = 0; i < 40; i++) {
            places[2 * i] = 20 * i;
            places[2 * i + 1] = 100 + i * (39 - i);
        }
        return places;
    }

    private static void stepsOfForty() {
        sentence = "LINES have 2 .. 40, RINGS 3 .. 40 CORNERS: STEPS of such with 40";
        ScaleShop x = new ScaleShop();
        int line = there(x, RIVER, bow());
        due("all but the ends go", x.plainer(line, GREATEST), 38);
        row(x, "the ends", line, 0, 100, 780, 100);
        due("the peak went, too", x.far(line, 0), 380 * 380);
        due("undo()", x.undo(), 1);
        row(x, "all are back", line, bow());
        granted(x, "smooth()", x.smooth(line));
        due("CORNERS", x.told(line, 4), 40);
        granted(x, "shift()", x.shift(line, 38, 0, 30, 20));
        due("the last but one", x.at(line, 38, 0), 760);
        ScaleShop y = new ScaleShop();
        int area = there(y, AREA, bow());
        due("all but three go", y.plainer(area, GREATEST), 37);
        due("CORNERS", y.told(area, 4), 3);
        y.undo();
        granted(y, "smooth()", y.smooth(area));
        granted(y, "shift()", y.shift(area, 39, 3, 3, 20));
        due("CORNERS", y.told(area, 4), 40);
        ScaleShop z = new ScaleShop();
        int house = open(z, HOUSE);
        for (int k = 0; k < 38; k++) {
            z.corner(house, 100 + 10 * ((k + 1) / 2), 100 + 10 * (k / 2));
        }
        z.corner(house, 290, 300);
        z.corner(house, 100, 300);
        granted(z, "done()", z.done(house));
        granted(z, "shift() of a HOUSE", z.shift(house, 39, 5, 7, 0));
        due("its last CORNER", z.at(house, 39, 0), 105);
        granted(z, "grow()", z.grow(house));
        due("its last CORNER", z.at(house, 39, 1), 507);
    }

    private static void plainerWhereOthersAre() {
        sentence = "Promise 6: at which no other FEATURE that is THERE has a point of its SET";
        int[][] bars = {{149, 1}, {150, NONE}, {151, 1}};
        for (int[] bar : bars) {
            ScaleShop x = new ScaleShop();
            int arch = there(x, LINE, 100, 100, 150, 140, 200, 100);
            there(x, LINE, bar[0], 50, bar[0], 300);
            due("a LINE through " + bar[0], x.plainer(arch, 4000), bar[1]);
            ScaleShop y = new ScaleShop();
            there(y, LINE, bar[0], 50, bar[0], 300);
            int later = there(y, LINE, 100, 100, 150, 140, 200, 100);
            due("a LINE before it through " + bar[0], y.plainer(later, 4000), bar[1]);
        }
        ScaleShop x = new ScaleShop();
        int arch = there(x, LINE, 100, 100, 150, 140, 200, 100);
        open(x, POINT, 150, 140);
        gone(x, POINT, 150, 140);
        torn(x, POINT, 150, 140);
        due("OPEN, GONE and TORN ones have none", x.plainer(arch, 4000), 1);
    }

    private static void smoothIsCut() {
        sentence = "Promise 7: (the one ahead of it, twice itself, the one behind it) together by 4, cut";
        for (int more = 0; more < 8; more++) {
            ScaleShop x = new ScaleShop();
            int line = there(x, LINE, 100, 200, 110, 300, 120 + more, 204 + more);
            granted(x, "smooth()", x.smooth(line));
            row(x, "the sum is " + more + " more", line, 100, 200, 110 + more / 4, 251 + more / 4, 120 + more,
                204 + more);
        }
        ScaleShop x = new ScaleShop();
        int line = there(x, LINE, 0, 0, 40, 0, 40, 40, 80, 40);
        granted(x, "smooth()", x.smooth(line));
        row(x, "all as they were before", line, 0, 0, 30, 10, 50, 30, 80, 40);
        due("far() knows of none", x.far(line, 0), 0);
    }

    private static void smoothRound() {
        sentence = "Promise 7: each CORNER but ends of LINES";
        ScaleShop x = new ScaleShop();
        int area = there(x, AREA, 100, 100, 203, 100, 203, 203);
        granted(x, "a RING has no ends", x.smooth(area));
        row(x, "round its begin", area, 151, 125, 177, 125, 177, 151);
        int line = there(x, LINE, 300, 100, 403, 100, 403, 203);
        granted(x, "a LINE has", x.smooth(line));
        row(x, "its ends stay", line, 300, 100, 377, 125, 403, 203);
    }

    private static void smoothNothing() {
        sentence = "Promise 7: 8: none changes";
        ScaleShop x = new ScaleShop();
        refused(x, "two CORNERS", x.smooth(there(x, LINE, 0, 0, 500, 3)), 8);
        refused(x, "level and even", x.smooth(there(x, LINE, 0, 10, 10, 10, 20, 10)), 8);
        refused(x, "3 by 4 more", x.smooth(there(x, LINE, 0, 20, 10, 20, 20, 23)), 8);
        granted(x, "4 by 4 more", x.smooth(there(x, LINE, 0, 30, 10, 30, 20, 34)));
        granted(x, "1 by 4 less", x.smooth(there(x, LINE, 0, 40, 10, 40, 20, 39)));
        row(x, "cut", 4, 0, 40, 10, 39, 20, 39);
        due("STEPS", x.count(5), 2);
    }

    private static void shiftBounds() {
        sentence = "Promise 8: dx, dy (-200 .. 200), n (0 .. 20)";
        int[][] ways = {{LEAST, 4}, {-201, 4}, {-200, 0}, {-199, 0}, {199, 0}, {200, 0}, {201, 4}, {GREATEST, 4}};
        int[][] kinds = {{POINT, 500, 500}, {LINE, 100, 500, 500, 500, 900, 500},
            {AREA, 500, 500, 900, 100, 900, 900}, {HOUSE, 500, 500, 550, 500, 550, 550, 500, 550}};
        for (int[] kind : kinds) {
            int[] places = Arrays.copyOfRange(kind, 1, kind.length);
            int k = kind[0] == LINE ? 1 : 0;
            for (int[] way : ways) {
                ScaleShop x = new ScaleShop();
                int number = there(x, kind[0], places);
                answered(x, "kind " + kind[0] + " by dx " + way[0], x.shift(number, k, way[0], 0, 0), way[1]);
                due("x", x.at(number, k, 0), way[1] == 0 ? 500 + way[0] : 500);
                ScaleShop y = new ScaleShop();
                there(y, kind[0], places);
                answered(y, "kind " + kind[0] + " by dy " + way[0], y.shift(number, k, 0, way[0], 0), way[1]);
                due("y", y.at(number, k, 1), way[1] == 0 ? 500 + way[0] : 500);
            }
            int[][] reaches = {{LEAST, 4}, {-1, 4}, {0, 0}, {1, 0}, {19, 0}, {20, 0}, {21, 4}, {GREATEST, 4}};
            for (int[] reach : reaches) {
                ScaleShop x = new ScaleShop();
                int number = there(x, kind[0], places);
                answered(x, "kind " + kind[0] + " with n " + reach[0], x.shift(number, k, 5, 5, reach[0]), reach[1]);
            }
        }
    }

    private static void shiftNeighbours() {
        sentence = "Promise 8: those j CORNERS from it, j up to n, by dx times (n + 1 - j) by (n + 1); ends of "
            + "LINES stay";
        int[] level = {0, 100, 10, 100, 20, 100, 30, 100, 40, 100, 50, 100, 60, 100};
        int[][] lifts = {{3, 0, 0, 0, 0, 12, 0, 0, 0}, {3, 1, 0, 0, 6, 12, 6, 0, 0}, {3, 2, 0, 4, 8, 12, 8, 4, 0},
            {3, 3, 0, 6, 9, 12, 9, 6, 0}, {1, 2, 0, 12, 8, 4, 0, 0, 0}, {0, 2, 0, 8, 4, 0, 0, 0, 0},
            {6, 2, 0, 0, 0, 0, 4, 8, 0}, {6, 1, 0, 0, 0, 0, 0, 6, 0}, {5, 1, 0, 0, 0, 0, 6, 12, 0}};
        for (int[] lift : lifts) {
            ScaleShop x = new ScaleShop();
            int line = there(x, LINE, level);
            granted(x, "CORNER " + lift[0] + ", n " + lift[1], x.shift(line, lift[0], 0, 12, lift[1]));
            for (int i = 0; i < 7; i++) {
                due("CORNER " + i + " of " + Arrays.toString(lift), x.at(line, i, 1), 100 + lift[2 + i]);
                due("its x", x.at(line, i, 0), 10 * i);
            }
        }
    }

    private static void shiftTwenty() {
        sentence = "Promise 8: j up to n (0 .. 20)";
        int[][] reaches = {{20, 21}, {19, 20}};
        for (int[] reach : reaches) {
            ScaleShop x = new ScaleShop();
            int line = open(x, LINE);
            for (int i = 0; i < 40; i++) {
                x.corner(line, 10 * i, 500);
            }
            x.done(line);
            granted(x, "n " + reach[0], x.shift(line, 1, 0, reach[1], reach[0]));
            due("the end", x.at(line, 0, 1), 500);
            due("CORNER 1", x.at(line, 1, 1), 500 + reach[1]);
            due("the last one that moves", x.at(line, 1 + reach[0], 1), 501);
            due("the next one", x.at(line, 2 + reach[0], 1), 500);
        }
        ScaleShop x = new ScaleShop();
        int area = open(x, AREA);
        for (int i = 0; i < 40; i++) {
            x.corner(area, i < 20 ? 20 * i : 20 * (39 - i), i < 20 ? 300 : 400);
        }
        x.done(area);
        granted(x, "half round", x.shift(area, 0, 0, -21, 20));
        due("CORNER 0", x.at(area, 0, 1), 279);
        due("CORNER 19", x.at(area, 19, 1), 298);
        due("CORNER 20", x.at(area, 20, 1), 399);
        due("CORNER 21", x.at(area, 21, 1), 398);
        due("CORNER 39", x.at(area, 39, 1), 380);
    }

    private static void shiftNearerWay() {
        sentence = "Promise 8: (of AREAS the nearer way round)";
        int[] five = {500, 500, 600, 500, 650, 600, 550, 650, 450, 600};
        int[][] moves = {{4, 0, 0, 0, 0, 0, 30}, {4, 1, 15, 0, 0, 15, 30}, {4, 2, 20, 10, 10, 20, 30},
            {0, 1, 30, 15, 0, 0, 15}, {0, 2, 30, 20, 10, 10, 20}, {2, 2, 10, 20, 30, 20, 10}, {2, 1, 0, 15, 30, 15, 0}};
        for (int[] move : moves) {
            ScaleShop x = new ScaleShop();
            int area = there(x, AREA, five);
            granted(x, "CORNER " + move[0] + ", n " + move[1], x.shift(area, move[0], 30, 0, move[1]));
            for (int i = 0; i < 5; i++) {
                due("CORNER " + i + " of " + Arrays.toString(move), x.at(area, i, 0), five[2 * i] + move[2 + i]);
            }
        }
        ScaleShop x = new ScaleShop();
        int four = there(x, AREA, box(500, 500, 600, 600));
        granted(x, "of four, n 1", x.shift(four, 1, 0, -20, 1));
        row(x, "the one across stays", four, 500, 490, 600, 480, 600, 590, 500, 600);
        x.undo();
        granted(x, "of four, n 2", x.shift(four, 1, 0, -21, 2));
        row(x, "the one across moves once", four, 500, 486, 600, 479, 600, 586, 500, 593);
    }

    private static void shiftCutTowardsZero() {
        sentence = "Promise 8: cut towards 0, dy likewise";
        for (int way = -9; way <= 9; way++) {
            ScaleShop x = new ScaleShop();
            int line = there(x, LINE, 0, 100, 100, 100, 200, 100, 300, 100, 400, 100);
            if (way == 0) {
                refused(x, "by nothing", x.shift(line, 2, 0, 0, 2), 8);
                continue;
            }
            granted(x, "by " + way, x.shift(line, 1, way, -way, 2));
            due("x of the next one", x.at(line, 2, 0), 200 + (way < 0 ? -(-way * 2 / 3) : way * 2 / 3));
            due("y of the next one", x.at(line, 2, 1), 100 - (way < 0 ? -(-way * 2 / 3) : way * 2 / 3));
            due("x of the one behind", x.at(line, 3, 0), 300 + (way < 0 ? -(-way / 3) : way / 3));
            due("y of the one behind", x.at(line, 3, 1), 100 - (way < 0 ? -(-way / 3) : way / 3));
            due("the end", x.at(line, 4, 0), 400);
        }
    }

    private static void shiftWhateverN() {
        sentence = "Promise 8: Of a POINT and a HOUSE all CORNERS move by dx, dy, whatever n";
        int[] reaches = {0, 1, 2, 20};
        for (int n : reaches) {
            for (int k = 0; k < 4; k++) {
                ScaleShop x = new ScaleShop();
                int house = house(x, 100, 100, 120, 130);
                granted(x, "HOUSE, n " + n, x.shift(house, k, 7, -3, n));
                row(x, "HOUSE, n " + n, house, 107, 97, 127, 97, 127, 127, 107, 127);
            }
            ScaleShop x = new ScaleShop();
            int point = there(x, POINT, 100, 100);
            granted(x, "POINT, n " + n, x.shift(point, 0, 7, -3, n));
            row(x, "POINT, n " + n, point, 107, 97);
            refused(x, "CORNER 1 of a POINT", x.shift(point, 1, 7, -3, n), 1);
            refused(x, "CORNER -1 of a POINT", x.shift(point, -1, 7, -3, n), 1);
        }
    }

    private static void shiftNothing() {
        sentence = "Promise 8: 8: nothing moves";
        ScaleShop x = new ScaleShop();
        int line = there(x, LINE, 100, 100, 110, 100, 120, 100);
        refused(x, "by nothing", x.shift(line, 1, 0, 0, 20), 8);
        refused(x, "an end alone", x.shift(line, 0, 5, 5, 0), 8);
        refused(x, "the other end alone", x.shift(line, 2, 5, 5, 0), 8);
        refused(x, "half of 1 is cut to 0", x.shift(line, 0, 1, -1, 1), 8);
        granted(x, "half of 2 is 1", x.shift(line, 0, 0, 2, 1));
        row(x, "the end stays", line, 100, 100, 110, 101, 120, 100);
        int two = there(x, LINE, 200, 100, 210, 100);
        refused(x, "two ends", x.shift(two, 1, 200, 200, 20), 8);
        int point = there(x, POINT, 300, 300);
        refused(x, "a POINT", x.shift(point, 0, 0, 0, 0), 8);
        granted(x, "a POINT by 1", x.shift(point, 0, 0, 1, 0));
        due("refusals by 7", x.count(7), 0);
        due("STEPS", x.count(5), 2);
    }

    private static void growTwice() {
        sentence = "Promise 9: each CORNER of a HOUSE becomes CORNER 0 and twice what it is away from it";
        ScaleShop x = new ScaleShop();
        int house = there(x, HOUSE, 500, 500, 500, 470, 490, 470, 490, 480, 480, 480, 480, 500);
        granted(x, "of six", x.grow(house));
        row(x, "of six", house, 500, 500, 500, 440, 480, 440, 480, 460, 460, 460, 460, 500);
        granted(x, "again", x.grow(house));
        row(x, "again", house, 500, 500, 500, 380, 460, 380, 460, 420, 420, 420, 420, 500);
        int slanted = there(x, HOUSE, 700, 700, 703, 704, 699, 707, 696, 703);
        granted(x, "aslant", x.grow(slanted));
        row(x, "aslant", slanted, 700, 700, 706, 708, 698, 714, 692, 706);
        int squared = there(x, AREA, box(100, 100, 110, 110));
        refused(x, "an AREA", x.grow(squared), 3);
        x.square(squared, 0);
        granted(x, "that has become a HOUSE", x.grow(squared));
        row(x, "that has become a HOUSE", squared, 100, 100, 120, 100, 120, 120, 100, 120);
    }

    private static void squareMost() {
        sentence = "Promise 10: 4: the AREA2 of both differ by more than most (or most below 0)";
        int[][] mosts = {{LEAST, 4}, {-1, 4}, {0, 4}, {19, 4}, {20, 0}, {21, 0}, {GREATEST, 0}};
        for (int[] most : mosts) {
            ScaleShop x = new ScaleShop();
            int area = there(x, AREA, 100, 100, 120, 100, 120, 120, 101, 120);
            answered(x, "most " + most[0], x.square(area, most[0]), most[1]);
            due("KIND", x.told(area, 0), most[1] == 0 ? HOUSE : AREA);
        }
        int[][] boxes = {{-1, 4}, {0, 0}, {1, 0}};
        for (int[] most : boxes) {
            ScaleShop x = new ScaleShop();
            int area = there(x, AREA, 120, 120, 120, 100, 100, 100, 100, 120);
            answered(x, "a box, most " + most[0], x.square(area, most[0]), most[1]);
        }
        ScaleShop x = new ScaleShop();
        int half = there(x, AREA, 0, 0, 1000, 0, 1000, 1000);
        refused(x, "the greatest difference but one", x.square(half, 999999), 4);
        granted(x, "the greatest difference", x.square(half, 1000000));
    }

    private static void squareCorners() {
        sentence = "Promise 10: the least box along both axes that has it (CORNERS: least x and y; ..)";
        ScaleShop x = new ScaleShop();
        int area = there(x, AREA, 150, 190, 110, 140, 130, 105, 180, 120);
        granted(x, "square()", x.square(area, GREATEST));
        row(x, "box", area, 110, 105, 180, 105, 180, 190, 110, 190);
        due("size()", x.size(area), 2 * 70 * 85);
        due("KIND", x.told(area, 0), HOUSE);
        refused(x, "no more an AREA", x.square(area, GREATEST), 3);
        refused(x, "no more plainer", x.plainer(area, GREATEST), 3);
        due("undo()", x.undo(), 1);
        due("an AREA again", x.told(area, 0), AREA);
        row(x, "as before", area, 150, 190, 110, 140, 130, 105, 180, 120);
        due("redo()", x.redo(), 1);
        due("a HOUSE again", x.told(area, 0), HOUSE);
    }

    private static void joinGap() {
        sentence = "Promise 11: two HOUSES whose DISTANCE is gap (0 .. 1000) at most";
        joinedBy(13, 14, LEAST, 4);
        joinedBy(13, 14, -1, 4);
        joinedBy(13, 14, 4, 4);
        joinedBy(13, 14, 5, 0);
        joinedBy(13, 14, 6, 0);
        joinedBy(13, 14, 1000, 0);
        joinedBy(13, 14, 1001, 4);
        joinedBy(13, 14, GREATEST, 4);
        joinedBy(15, 11, 5, 4);
        joinedBy(15, 11, 6, 0);
        joinedBy(10, 5, 0, 0);
        joinedBy(10, 10, 0, 0);
        joinedBy(11, 5, 0, 4);
        joinedBy(11, 5, 1, 0);
        joinedBy(610, 810, 1000, 0);
        joinedBy(610, 810, 999, 4);
        joinedBy(610, 811, 1000, 4);
        joinedBy(611, 810, 1000, 4);
    }

    /** Joins a HOUSE from 0, 0 to 10, 10 with one that begins at the place told. */
    private static void joinedBy(int left, int low, int gap, int why) {
        ScaleShop x = new ScaleShop();
        int first = house(x, 0, 0, 10, 10);
        int second = house(x, left, low, left + 20, low + 30);
        String what = "to " + left + ", " + low + " by gap " + gap;
        due(what, x.join(first, second, gap), why == 0 ? 2 : NONE);
        due(what + ", status", x.status(), why);
        due(what + ", FEATURES", x.count(0), why == 0 ? 3 : 2);
        due(what + ", THERE", x.count(1), why == 0 ? 1 : 2);
        if (why == 0) {
            row(x, what, 2, 0, 0, left + 20, 0, left + 20, low + 30, 0, low + 30);
        }
    }

    private static void joinBox() {
        sentence = "Promise 11: 7: another FEATURE that is THERE (not TORN) MEETS the box, or has its CORNER 0 "
            + "INSIDE it";
        int[][] points = {{15, 5, 7}, {15, 10, 7}, {15, 11, 0}, {15, 0, 7}, {30, 10, 7}, {31, 10, 0}, {30, 11, 0},
            {5, 5, 7}, {25, 5, 7}};
        for (int[] p : points) {
            ScaleShop x = new ScaleShop();
            house(x, 0, 0, 10, 10);
            house(x, 20, 0, 30, 10);
            there(x, POINT, p[0], p[1]);
            due("POINT " + p[0] + ", " + p[1], x.join(0, 1, 10), p[2] == 0 ? 3 : NONE);
            due("status", x.status(), p[2]);
        }
        joinedBeside("a LINE within", 7, LINE, 12, 5, 18, 5);
        joinedBeside("a LINE across", 7, LINE, 15, 50, 15, 5);
        joinedBeside("a LINE that ends above", 0, LINE, 15, 50, 15, 11);
        joinedBeside("a LINE through both", 7, LINE, 5, 50, 5, 5);
        joinedBeside("a HOUSE within", 7, HOUSE, box(12, 2, 18, 8));
        joinedBeside("a RING around", 0, AREA, 0, 11, 31, 11, 31, 0, 40, 0, 40, 40, 0, 40);
        ScaleShop x = new ScaleShop();
        house(x, 0, 0, 10, 10);
        house(x, 20, 0, 30, 10);
        open(x, POINT, 15, 5);
        torn(x, POINT, 15, 6);
        gone(x, POINT, 15, 7);
        due("OPEN, TORN and GONE ones", x.join(0, 1, 10), 5);
        int[][] befores = {{15, 10, NONE}, {15, 11, 3}};
        for (int[] p : befores) {
            ScaleShop z = new ScaleShop();
            there(z, POINT, p[0], p[1]);
            house(z, 0, 0, 10, 10);
            house(z, 20, 0, 30, 10);
            due("a POINT before them at " + p[1], z.join(1, 2, 10), p[2]);
        }
        ScaleShop y = new ScaleShop();
        house(y, 100, 100, 200, 200);
        there(y, HOUSE, box(120, 120, 110, 110));
        due("one lies in the other", y.join(1, 0, 10), 2);
        row(y, "the least box that has both", 2, 100, 100, 200, 100, 200, 200, 100, 200);
        due("first", y.told(2, 8), 1);
        due("second", y.told(2, 9), 0);
    }

    private static void joinedBeside(String what, int why, int kind, int... places) {
        ScaleShop x = new ScaleShop();
        house(x, 0, 0, 10, 10);
        house(x, 20, 0, 30, 10);
        there(x, kind, places);
        due(what, x.join(0, 1, 10), why == 0 ? 3 : NONE);
        due(what + ", status", x.status(), why);
    }

    private static void joinRoom() {
        sentence = "Promise 11: 8: no room, or both are one";
        int[][] fills = {{197, 199}, {196, 198}, {198, NONE}};
        for (int[] fill : fills) {
            ScaleShop x = new ScaleShop();
            house(x, 0, 0, 10, 10);
            house(x, 20, 0, 30, 10);
            for (int i = 0; i < fill[0]; i++) {
                x.feature(POINT, 0, 0, 0);
            }
            due("with " + (fill[0] + 2), x.join(0, 1, 10), fill[1]);
            due("status", x.status(), fill[1] == NONE ? 8 : 0);
            due("FEATURES", x.count(0), fill[1] == NONE ? 200 : fill[1] + 1);
        }
        ScaleShop x = new ScaleShop();
        int house = house(x, 0, 0, 10, 10);
        refused(x, "both are one", x.join(house, house, 0), 8);
        refused(x, "both are one", x.join(house, house, 1000), 8);
        due("THERE", x.count(1), 1);
        due("STEPS", x.count(5), 0);
    }

    private static void dropStates() {
        sentence = "Promise 12: A FEATURE is GONE. 1, 2, 5";
        for (int kind = POINT; kind <= HOUSE; kind++) {
            ScaleShop x = new ScaleShop();
            int number = kind == POINT ? there(x, kind, 5, 5) : there(x, kind, box(0, 0, 10, 10));
            granted(x, "kind " + kind, x.drop(number));
            due("GONE", x.told(number, 5), 2);
            due("by", x.told(number, 7), 1);
            refused(x, "GONE already", x.drop(number), 2);
            refused(x, "the next number", x.drop(number + 1), 1);
            refused(x, "the number before", x.drop(number - 1), 1);
        }
    }

    // Promises 13 to 15

    private static void fewLeast() {
        sentence = "Promise 13: each whose AREA2 is below least; 4: least below 0";
        int[][] leasts = {{LEAST, NONE, 4}, {-1, NONE, 4}, {0, NONE, 8}, {199, NONE, 8}, {200, NONE, 8}, {201, 1, 0},
            {GREATEST, 1, 0}};
        for (int[] least : leasts) {
            ScaleShop x = new ScaleShop();
            int house = house(x, 0, 0, 10, 10);
            there(x, AREA, 20, 0, 21, 0, 20, 1);
            due("least " + least[0], x.few(least[0], 0), least[1]);
            due("least " + least[0] + ", status", x.status(), least[2]);
            due("least " + least[0] + ", state", x.told(house, 5), least[2] == 0 ? 2 : 1);
        }
    }

    private static void fewMany() {
        sentence = "Promise 13: none of the greatest ones, as many as told (0 .. 200; by AREA2, of alike ones the "
            + "least number)";
        int[][] manies = {{LEAST, NONE, 4}, {-1, NONE, 4}, {0, 4, 0}, {1, 3, 0}, {2, 2, 0}, {3, 1, 0}, {4, NONE, 8},
            {200, NONE, 8}, {201, NONE, 4}, {GREATEST, NONE, 4}};
        // The greatest one is 2, then come 0 and 3, which are alike, then 1.
        int[][] orders = {{0, 1}, {1, 3}, {2, 0}, {3, 2}};
        for (int[] many : manies) {
            ScaleShop x = new ScaleShop();
            house(x, 0, 0, 10, 10);
            house(x, 20, 0, 25, 5);
            house(x, 40, 0, 60, 20);
            house(x, 70, 0, 80, 10);
            due("many " + many[0], x.few(GREATEST, many[0]), many[1]);
            due("many " + many[0] + ", status", x.status(), many[2]);
            for (int[] order : orders) {
                boolean stays = many[2] != 0 || order[1] < many[0];
                due("many " + many[0] + ", HOUSE " + order[0], x.told(order[0], 5), stays ? 1 : 2);
            }
        }
        ScaleShop x = new ScaleShop();
        house(x, 0, 0, 10, 10);
        house(x, 20, 0, 25, 5);
        house(x, 40, 0, 60, 20);
        due("the second one is not below least", x.few(200, 1), 1);
        due("only the least one went", x.told(1, 5), 2);
    }

    private static void fewOfTowns() {
        sentence = "Promise 13: of all HOUSES of its town (that are THERE, not TORN): all are one STEP";
        ScaleShop x = new ScaleShop();
        for (int town = 0; town <= 9; town++) {
            made(x, HOUSE, 0, 0, town, box(0, 20 * town, 10, 20 * town + 10));
            made(x, HOUSE, 0, 0, town, box(20, 20 * town, 25, 20 * town + 5));
        }
        due("one of each town", x.few(GREATEST, 1), 10);
        due("THERE", x.count(1), 10);
        due("one STEP", x.count(5), 1);
        due("how many", x.step(1, 2), 10);
        due("its FEATURE", x.step(1, 1), NONE);
        due("GONE by it", x.told(1, 7), 1);
        refused(x, "none more", x.few(GREATEST, 1), 8);
        due("undo()", x.undo(), 1);
        due("THERE again", x.count(1), 20);
        ScaleShop y = new ScaleShop();
        int open = open(y, HOUSE, box(100, 100, 200, 200));
        int torn = torn(y, HOUSE, box(300, 100, 400, 200));
        int gone = gone(y, HOUSE, box(500, 100, 600, 200));
        int area = there(y, AREA, box(700, 100, 800, 200));
        int small = house(y, 0, 0, 1, 1);
        int smaller = there(y, HOUSE, box(10, 10, 11, 11));
        due("these are among the greatest of nobody", y.few(GREATEST, 1), 1);
        due("the small one", y.told(small, 5), 1);
        due("the one behind it", y.told(smaller, 5), 2);
        due("OPEN still", y.told(open, 5), 0);
        due("TORN still", y.told(torn, 5), 1);
        due("GONE by another STEP", y.told(gone, 7), 1);
        due("an AREA stays", y.told(area, 5), 1);
    }

    private static void chooseWeight() {
        sentence = "Promise 14: WEIGHT of a ROAD is (rank and 1) times the sum of how far its CORNERS are one from "
            + "the next";
        // Two ROADS with the same ends: which of them goes?
        heavier(0, 20, 0, 20, 1);
        heavier(0, 22, 0, 20, 0);
        heavier(0, 20, 0, 22, 1);
        heavier(1, 20, 0, 38, 0);
        heavier(1, 20, 0, 40, 1);
        heavier(1, 20, 0, 42, 1);
        heavier(9, 20, 4, 38, 0);
        heavier(9, 20, 4, 40, 1);
        heavier(9, 20, 4, 42, 1);
        heavier(9, 900, 0, 1100, 0);
        ScaleShop x = new ScaleShop();
        int round = there(x, ROAD, 0, 0, 0, 3, 4, 3);
        int straight = there(x, ROAD, 0, 0, 4, 3);
        due("in x and in y, so both are 7", x.choose(), 1);
        due("the lower number stays", x.told(round, 5), 1);
        due("the higher one goes", x.told(straight, 5), 2);
    }

    private static void heavier(int rank, int length, int otherRank, int otherLength, int goes) {
        ScaleShop x = new ScaleShop();
        made(x, ROAD, rank, 0, 0, roadOf(length));
        made(x, ROAD, otherRank, 0, 0, roadOf(otherLength));
        String what = "rank " + rank + ", " + length + " beside rank " + otherRank + ", " + otherLength;
        due(what, x.choose(), 1);
        due(what + ": goes", x.told(goes, 5), 2);
        due(what + ": stays", x.told(1 - goes, 5), 1);
    }

    /** From 100, 100 to 120, 100; what is above 20 leads up and down again. */
    private static int[] roadOf(int length) {
        int up = 100 + (length - 20) / 2;
        return up == 100 ? new int[] {100, 100, 120, 100} : new int[] {100, 100, 100, up, 120, up, 120, 100};
    }

    private static void chooseJoined() {
        sentence = "Promise 14: each one whose ends are joined already by those before goes";
        ScaleShop x = new ScaleShop();
        refused(x, "no ROADS", x.choose(), 8);
        there(x, ROAD, 0, 0, 10, 0);
        refused(x, "one", x.choose(), 8);
        there(x, ROAD, 10, 0, 20, 0);
        there(x, ROAD, 20, 0, 30, 0);
        refused(x, "a chain", x.choose(), 8);
        int almost = there(x, ROAD, 30, 1, 30, 100, 0, 100, 0, 0);
        refused(x, "one beside its end", x.choose(), 8);
        int closing = there(x, ROAD, 30, 0, 31, 101, 0, 101, 0, 0);
        due("it closes a ring", x.choose(), 1);
        due("it goes", x.told(closing, 5), 2);
        due("this does not", x.told(almost, 5), 1);
        x.undo();
        x.drop(1);
        refused(x, "a GONE one joins nobody", x.choose(), 8);
        x.undo();
        x.tear(2);
        refused(x, "nor does a TORN one", x.choose(), 8);
        int[] others = {LINE, RIVER, BORDER};
        for (int kind : others) {
            ScaleShop y = new ScaleShop();
            there(y, ROAD, 0, 0, 10, 0);
            there(y, kind, 0, 0, 5, 5, 10, 0);
            refused(y, "kind " + kind, y.choose(), 8);
        }
        ScaleShop y = new ScaleShop();
        there(y, ROAD, 0, 0, 10, 0);
        open(y, ROAD, 0, 0, 5, 5, 10, 0);
        refused(y, "OPEN", y.choose(), 8);
        there(y, ROAD, 0, 0, 4, 4, 10, 0);
        there(y, ROAD, 10, 0, 6, 6, 0, 0);
        due("two at once", y.choose(), 2);
        due("GONE by it", y.told(2, 7), 1);
        due("GONE by it", y.told(3, 7), 1);
        due("one STEP", y.count(5), 1);
        due("how many", y.step(1, 2), 2);
        due("its FEATURE", y.step(1, 1), NONE);
    }

    private static void chooseOrder() {
        sentence = "Promise 14: By WEIGHT, then number";
        int[] lengths = {20, 22, 24, 26};
        for (int order = 0; order < 24; order++) {
            ArrayList<Integer> left = new ArrayList<>(List.of(0, 1, 2, 3));
            ScaleShop x = new ScaleShop();
            int lightest = 0;
            int rest = order;
            for (int i = 4; i >= 1; i--) {
                int which = left.remove(rest % i);
                rest /= i;
                int number = there(x, ROAD, roadOf(lengths[which]));
                lightest = which == 0 ? number : lightest;
            }
            due("order " + order, x.choose(), 3);
            due("the lightest one stays", x.told(lightest, 5), 1);
        }
        // A ring of four: only the heaviest one goes, wherever it stands.
        int[][] ring = {{100, 100, 200, 100}, {200, 100, 200, 201}, {200, 201, 100, 202}, {100, 202, 100, 100}};
        int[] weights = {100, 101, 101, 102};
        for (int begin = 0; begin < 4; begin++) {
            ScaleShop x = new ScaleShop();
            int heaviest = 0;
            for (int i = 0; i < 4; i++) {
                int number = there(x, ROAD, ring[(begin + i) % 4]);
                due("length", x.size(number), weights[(begin + i) % 4]);
                heaviest = (begin + i) % 4 == 3 ? number : heaviest;
            }
            due("one closes the ring", x.choose(), 1);
            due("the heaviest", x.told(heaviest, 5), 2);
        }
        int[][] ends = {{10, 0, 1}, {11, 0, NONE}, {10, 1, NONE}};
        for (int[] end : ends) {
            ScaleShop x = new ScaleShop();
            there(x, ROAD, 0, 0, 10, 0);
            there(x, ROAD, 0, 0, 5, 5, end[0], end[1]);
            due("end at " + end[0] + ", " + end[1], x.choose(), end[2]);
            ScaleShop y = new ScaleShop();
            there(y, ROAD, 10, 0, 0, 0);
            there(y, ROAD, end[0], end[1], 5, 5, 0, 0);
            due("begin at " + end[0] + ", " + end[1], y.choose(), end[2]);
        }
    }

    private static void chooseOfMany() {
        sentence = "Promise 14: as many ROADS as there can be";
        ScaleShop x = new ScaleShop();
        for (int i = 0; i < 125; i++) {
            there(x, ROAD, 0, i, 100 + i % 2, i + 1 - i % 2);
        }
        refused(x, "none is joined already", x.choose(), 8);
        ScaleShop y = new ScaleShop();
        for (int i = 0; i < 124; i++) {
            there(y, ROAD, 5 * i, 0, 5 * i + 5, 0);
        }
        int closing = there(y, ROAD, 620, 0, 300, 300, 0, 0);
        due("a chain of 124, and one that closes it", y.choose(), 1);
        due("that goes", y.told(closing, 5), 2);
    }

    private static void runLimit() {
        sentence = "Promise 15: 4: limit below 0; 8: none";
        int[][] limits = {{LEAST, NONE, 4}, {-1, NONE, 4}, {0, NONE, 8}, {19, NONE, 8}, {20, 1, 0}, {21, 1, 0},
            {79, 1, 0},
            {80, 2, 0}, {1599, 2, 0}, {1600, 3, 0}, {GREATEST, 3, 0}};
        for (int[] limit : limits) {
            ScaleShop x = new ScaleShop();
            there(x, LINE, 0, 10, 10, 9, 20, 10);
            there(x, AREA, 100, 100, 120, 98, 140, 100, 140, 140, 100, 140);
            there(x, LINE, 0, 200, 10, 300, 20, 200);
            house(x, 500, 500, 510, 510);
            there(x, POINT, 10, 250);
            due("limit " + limit[0], x.run(limit[0]), limit[1]);
            due("limit " + limit[0] + ", status", x.status(), limit[2]);
        }
    }

    private static void runAgain() {
        sentence = "Promise 15: PLAINER of each FEATURE that may be, by numbers, again and again: all are one STEP";
        ScaleShop x = new ScaleShop();
        // The upper one may go only when the one below it, which has a higher number, is level.
        int upper = there(x, LINE, 0, 0, 20, 12, 40, 0);
        int within = there(x, LINE, 10, 1, 20, 6, 30, 1);
        due("the inner one stands in the way", x.plainer(upper, 2000), NONE);
        x.drop(within);
        int above = there(x, LINE, 10, 10, 20, 20, 30, 10);
        due("the higher number waits for the lower one", x.run(2000), 2);
        row(x, "above", above, 10, 10, 30, 10);
        ScaleShop y = new ScaleShop();
        int over = there(y, LINE, 10, 10, 20, 20, 30, 10);
        int under = there(y, LINE, 0, 0, 20, 12, 40, 0);
        due("the lower number waits for the higher one", y.run(2000), 2);
        row(y, "over", over, 10, 10, 30, 10);
        row(y, "under", under, 0, 0, 40, 0);
        due("one STEP", y.count(5), 1);
        due("which", y.step(1, 0), 10);
        due("its FEATURE", y.step(1, 1), NONE);
        due("how many", y.step(1, 2), 2);
        due("undo()", y.undo(), 1);
        row(y, "over again", over, 10, 10, 20, 20, 30, 10);
        row(y, "under again", under, 0, 0, 20, 12, 40, 0);
        ScaleShop z = new ScaleShop();
        open(z, LINE, 0, 0, 10, 1, 20, 0);
        gone(z, LINE, 0, 10, 10, 11, 20, 10);
        torn(z, LINE, 0, 20, 10, 21, 20, 20);
        house(z, 100, 100, 110, 110);
        there(z, POINT, 500, 500);
        refused(z, "none of these may be", z.run(GREATEST), 8);
    }

    // Promises 16 and 17

    private static ScaleShop threeSteps() {
        ScaleShop x = new ScaleShop();
        int point = there(x, POINT, 500, 500);
        for (int i = 0; i < 3; i++) {
            x.shift(point, 0, 10, 0, 0);
        }
        return x;
    }

    private static void undoNone() {
        sentence = "Promise 16: The latest STEP that is done is undone: its number. 8: there is none";
        ScaleShop x = threeSteps();
        for (int i = 3; i >= 1; i--) {
            due("undo()", x.undo(), i);
            due("status", x.status(), 0);
            due("x", x.at(0, 0, 0), 490 + 10 * i);
            due("done", x.count(5), i - 1);
            due("may be done again", x.count(6), 4 - i);
            due("whether it is done", x.step(i, 3), 0);
        }
        refused(x, "no more", x.undo(), 8);
        refused(x, "no more", x.undo(), 8);
        due("may be done again", x.count(6), 3);
        due("redo()", x.redo(), 1);
        due("undo()", x.undo(), 1);
        refused(x, "no more", x.undo(), 8);
    }

    /** Undo() behind a call that may bar it: the STEP that is undone, or NONE. */
    private static void barred(String what, int want, Call call) {
        ScaleShop x = new ScaleShop();
        int point = there(x, POINT, 500, 500);
        open(x, POINT, 600, 600);
        open(x, LINE);
        x.shift(point, 0, 10, 0, 0);
        call.on(x);
        due(what, x.undo(), want);
        due(what + ", status", x.status(), want == NONE ? 8 : 0);
        due(what + ", x", x.at(point, 0, 0), want == NONE ? 510 : 500);
    }

    private static void undoSince() {
        sentence = "Promise 16: 8: there is none since the latest feature(), done(), tear() that was done";
        barred("nothing", 1, x -> 0);
        barred("feature()", NONE, x -> x.feature(POINT, 0, 0, 0));
        barred("done()", NONE, x -> told(x.done(1)));
        barred("tear() of an OPEN one", NONE, x -> told(x.tear(1)));
        barred("corner()", 1, x -> x.corner(2, 5, 5));
        barred("feature() that is refused", 1, x -> x.feature(7, 0, 0, 0));
        barred("done() that is refused", 1, x -> told(x.done(2)));
        barred("done() that is refused", 1, x -> told(x.done(0)));
        barred("tear() that is refused", 1, x -> told(x.tear(99)));
        barred("what only tells", 1, x -> x.clashes(5));
        ScaleShop x = threeSteps();
        x.tear(x.feature(POINT, 0, 0, 0));
        refused(x, "all are before", x.undo(), 8);
        x.shift(0, 0, 10, 0, 0);
        due("one since", x.undo(), 4);
        refused(x, "no more", x.undo(), 8);
        due("redo()", x.redo(), 4);
        due("done", x.count(5), 4);
        due("one before is told", x.step(3, 3), 1);
        ScaleShop y = threeSteps();
        y.tear(0);
        refused(y, "tear() of one that is THERE", y.undo(), 8);
        due("its row is missing", y.at(0, 0, 0), NONE);
    }

    private static void undoJoin() {
        sentence = "Promise 16: (A FEATURE that JOIN made is not there at all then, its number free for the next.)";
        ScaleShop x = new ScaleShop();
        int first = house(x, 0, 0, 10, 10);
        int second = house(x, 20, 0, 30, 10);
        int joined = x.join(first, second, 10);
        due("its number", joined, 2);
        due("undo()", x.undo(), 1);
        due("FEATURES", x.count(0), 2);
        due("told()", x.told(joined, 0), NONE);
        due("at()", x.at(joined, 0, 0), NONE);
        due("size()", x.size(joined), NONE);
        refused(x, "drop()", x.drop(joined), 1);
        for (int i = 0; i < 2; i++) {
            due("THERE", x.told(i, 5), 1);
            due("by none", x.told(i, 7), 0);
            due("JOINED to none", x.told(i, 10), NONE);
        }
        due("redo()", x.redo(), 1);
        due("FEATURES", x.count(0), 3);
        due("of the first", x.told(joined, 8), first);
        due("of the second", x.told(joined, 9), second);
        due("JOINED to", x.told(first, 10), joined);
        x.grow(joined);
        due("undo()", x.undo(), 2);
        due("undo()", x.undo(), 1);
        due("the next has its number", x.join(second, first, 10), 2);
        due("of the first", x.told(joined, 8), second);
        x.undo();
        due("feature() has its number", x.feature(LINE, 1, 2, 3), 2);
        due("JOINED of none", x.told(2, 8), NONE);
        due("KIND", x.told(2, 0), LINE);
        due("CORNERS", x.told(2, 4), 0);
    }

    private static void redoNone() {
        sentence = "Promise 17: The latest STEP that was undone is done again: its number. 8: there is none";
        ScaleShop x = threeSteps();
        refused(x, "none undone", x.redo(), 8);
        x.undo();
        x.undo();
        due("redo()", x.redo(), 2);
        due("x", x.at(0, 0, 0), 520);
        due("status", x.status(), 0);
        due("redo()", x.redo(), 3);
        due("x", x.at(0, 0, 0), 530);
        refused(x, "no more", x.redo(), 8);
        due("done", x.count(5), 3);
        due("may be done again", x.count(6), 0);
        due("whether it is done", x.step(3, 3), 1);
    }

    /** Redo() behind a call that may forget the STEP that was undone. */
    private static void forgotten(String what, int want, Call call) {
        ScaleShop x = new ScaleShop();
        int point = there(x, POINT, 500, 500);
        open(x, POINT, 600, 600);
        open(x, LINE);
        x.shift(point, 0, 10, 0, 0);
        x.shift(point, 0, 10, 0, 0);
        x.undo();
        call.on(x);
        due(what + ", STEP 2", x.step(2, 3), want == NONE ? NONE : 0);
        due(what + ", may be done again", x.count(6), want == NONE ? 0 : 1);
        due(what, x.redo(), want);
    }

    private static void redoForgets() {
        sentence = "Promise 17: a STEP that is done, feature(), done(), tear() forget those that were undone";
        forgotten("nothing", 2, x -> 0);
        forgotten("feature()", NONE, x -> x.feature(POINT, 0, 0, 0));
        forgotten("done()", NONE, x -> told(x.done(1)));
        forgotten("tear()", NONE, x -> told(x.tear(1)));
        forgotten("tear() of one that is THERE", NONE, x -> told(x.tear(0)));
        forgotten("corner()", 2, x -> x.corner(2, 5, 5));
        forgotten("feature() that is refused", 2, x -> x.feature(0, 10, 0, 0));
        forgotten("done() that is refused", 2, x -> told(x.done(2)));
        forgotten("tear() that is refused", 2, x -> told(x.tear(-1)));
        forgotten("a STEP that is refused by 8", 2, x -> told(x.shift(0, 0, 0, 0, 0)));
        forgotten("a STEP that is refused by 1", 2, x -> told(x.shift(9, 0, 0, 0, 0)));
        forgotten("what only tells", 2, x -> x.far(0, 0));
        ScaleShop x = threeSteps();
        x.undo();
        x.undo();
        x.drop(0);
        due("a STEP that is done takes the number", x.step(2, 0), 7);
        due("the others are forgotten", x.step(3, 0), NONE);
        refused(x, "redo()", x.redo(), 8);
        due("undo()", x.undo(), 2);
        due("undo()", x.undo(), 1);
        due("x", x.at(0, 0, 0), 500);
    }

    // Promises 18 to 30

    /** FEATURES 0 THERE, 1 OPEN, 2 GONE, 3 TORN, all alike. */
    private static ScaleShop states(int kind, int... places) {
        ScaleShop x = new ScaleShop();
        there(x, kind, places);
        open(x, kind, places);
        gone(x, kind, places);
        torn(x, kind, places);
        return x;
    }

    private static void meetsOthers() {
        sentence = "Promise 18: Whether two that are THERE MEET. False for others, or TORN ones; one MEETS itself";
        ScaleShop x = states(LINE, 0, 0, 10, 10);
        int[] numbers = {LEAST, -1, 0, 1, 2, 3, 4, GREATEST};
        for (int first : numbers) {
            for (int second : numbers) {
                due("meets(" + first + ", " + second + ")", number(x.meets(first, second)),
                    number(first == 0 && second == 0));
            }
        }
        int point = there(x, POINT, 5, 5);
        yes("a POINT itself", x.meets(point, point));
        yes("both ways", x.meets(0, point) && x.meets(point, 0));
    }

    private static void insideOthers() {
        sentence = "Promise 19: Whether a PLACE is INSIDE a RING that is THERE. NONE for others, TORN ones, no PLACE";
        ScaleShop x = states(AREA, box(100, 100, 110, 110));
        int[][] rings = {{LEAST, NONE}, {-1, NONE}, {0, 1}, {1, NONE}, {2, NONE}, {3, NONE}, {4, NONE},
            {GREATEST, NONE}};
        for (int[] ring : rings) {
            due("RING " + ring[0], x.inside(105, 105, ring[0]), ring[1]);
        }
        int[][] places = {{99, 105, 0}, {100, 105, 2}, {101, 105, 1}, {109, 105, 1}, {110, 105, 2}, {111, 105, 0},
            {105, 99, 0}, {105, 100, 2}, {105, 101, 1}, {105, 109, 1}, {105, 110, 2}, {105, 111, 0}, {100, 100, 2},
            {110, 100, 2}, {110, 110, 2}, {100, 110, 2}, {99, 99, 0}, {111, 111, 0}, {99, 110, 0}, {99, 100, 0}};
        for (int[] p : places) {
            due("PLACE " + p[0] + ", " + p[1], x.inside(p[0], p[1], 0), p[2]);
        }
        for (int kind = POINT; kind < AREA; kind++) {
            int number = kind == POINT ? there(x, kind, 5, 5) : there(x, kind, 0, 0, 10, 0, 10, 10);
            due("kind " + kind, x.inside(5, 5, number), NONE);
        }
        due("a HOUSE", x.inside(205, 205, house(x, 200, 200, 210, 210)), 1);
    }

    private static void sideOthers() {
        sentence = "Promise 20: 1 left, -1 right, 0 on its line. 0 for others, too, and for what is no PLACE";
        int[][] ways = {{1, 0}, {0, 1}, {-1, 0}, {0, -1}, {2, 1}, {-1, 2}};
        for (int[] way : ways) {
            ScaleShop x = new ScaleShop();
            int line = there(x, LINE, 500, 500, 500 + 10 * way[0], 500 + 10 * way[1]);
            due("left", x.side(500 - way[1], 500 + way[0], line, 0), 1);
            due("right", x.side(500 + way[1], 500 - way[0], line, 0), -1);
            due("its begin", x.side(500, 500, line, 0), 0);
            due("behind its end", x.side(500 + 20 * way[0], 500 + 20 * way[1], line, 0), 0);
            due("before its begin", x.side(500 - 20 * way[0], 500 - 20 * way[1], line, 0), 0);
        }
        ScaleShop x = new ScaleShop();
        int slant = there(x, LINE, 0, 0, 999, 1000);
        due("just left", x.side(998, 999, slant, 0), 1);
        due("just right", x.side(1, 1, slant, 0), -1);
        due("no FEATURE", x.side(998, 999, 1, 0), 0);
        due("no FEATURE", x.side(998, 999, -1, 0), 0);
        due("no EDGE", x.side(998, 999, slant, 1), 0);
        due("no EDGE", x.side(998, 999, slant, -1), 0);
        due("no EDGE", x.side(998, 999, slant, GREATEST), 0);
        due("a POINT has none", x.side(5, 5, there(x, POINT, 1, 0), 0), 0);
        x.tear(slant);
        due("TORN", x.side(998, 999, slant, 0), 0);
    }

    private static void nearOthers() {
        sentence = "Promise 21: what 0 the numerator, 1 the denominator. NONE for others, TORN ones";
        ScaleShop x = states(LINE, 0, 0, 10, 10);
        int point = there(x, POINT, 0, 1);
        int[][] whats = {{LEAST, NONE}, {-1, NONE}, {0, 1}, {1, 2}, {2, NONE}, {GREATEST, NONE}};
        for (int[] what : whats) {
            due("what " + what[0], x.near(0, point, what[0]), what[1]);
        }
        int[] others = {LEAST, -1, 1, 2, 3, 5, GREATEST};
        for (int other : others) {
            due("first " + other, x.near(other, point, 0), NONE);
            due("second " + other, x.near(point, other, 1), NONE);
        }
        due("itself, over", x.near(point, point, 0), 0);
        due("itself, under", x.near(point, point, 1), 1);
        due("a TORN one itself", x.near(3, 3, 0), NONE);
    }

    private static void clashesLess() {
        sentence = "Promise 22: whose DISTANCE is less than half the sum of both widths, and the gap besides; gap "
            + "(0 .. 200)";
        // Two widths, how far two POINTS are apart, the gap, and whether they clash.
        int[][] cases = {{0, 0, 1, 0, 0}, {1, 0, 1, 0, 0}, {1, 1, 1, 0, 0}, {2, 1, 1, 0, 1}, {2, 2, 2, 0, 0},
            {3, 2, 2, 0, 1}, {0, 0, 1, 1, 0}, {0, 1, 1, 1, 1}, {0, 0, 1, 2, 1}, {100, 100, 99, 0, 1},
            {100, 100, 100, 0, 0},
            {100, 100, 299, 200, 1}, {100, 100, 300, 200, 0}, {99, 100, 299, 200, 1}, {98, 100, 299, 200, 0},
            {4, 4, 0, 0, 0}, {0, 0, 200, 200, 0}, {0, 0, 199, 200, 1}, {5, 5, 1, -1, NONE}, {5, 5, 1, 201, NONE},
            {5, 5, 1, LEAST, NONE}, {5, 5, 1, GREATEST, NONE}};
        for (int[] c : cases) {
            ScaleShop x = new ScaleShop();
            made(x, POINT, 0, c[0], 0, 100, 100);
            made(x, POINT, 0, c[1], 0, 100 + c[2], 100);
            due("clashes() " + Arrays.toString(c), x.clashes(c[3]), c[4]);
        }
        // The square of the DISTANCE is 25 by 2: more than 3.5 squared, less than 4 squared.
        int[][] roofs = {{7, 0}, {8, 1}};
        for (int[] roof : roofs) {
            ScaleShop x = new ScaleShop();
            made(x, LINE, 0, roof[0], 0, 0, 0, 10, 10, 20, 0);
            made(x, POINT, 0, 0, 0, 10, 5);
            due("width " + roof[0], x.clashes(0), roof[1]);
        }
        // The POINT is 5 away from the LINE, though their boxes have points in common.
        int[][] slants = {{4, 5, 0}, {5, 5, 0}, {5, 6, 1}};
        for (int[] slant : slants) {
            ScaleShop x = new ScaleShop();
            made(x, LINE, 0, slant[0], 0, 0, 0, 30, 40);
            made(x, POINT, 0, slant[1], 0, 19, 17);
            due("widths " + slant[0] + " and " + slant[1], x.clashes(0), slant[2]);
        }
    }

    private static void clashPairs() {
        sentence = "Promise 23: Pair i (by the lower number, then the higher). NONE without one, or for others";
        ScaleShop x = new ScaleShop();
        for (int i = 0; i < 4; i++) {
            made(x, POINT, 0, 10, 0, 100 + i, 100);
        }
        int[][] pairs = {{0, 1}, {0, 2}, {0, 3}, {1, 2}, {1, 3}, {2, 3}};
        due("clashes()", x.clashes(0), 6);
        for (int i = 0; i < pairs.length; i++) {
            due("pair " + i, x.clash(0, i, 0), pairs[i][0]);
            due("pair " + i, x.clash(0, i, 1), pairs[i][1]);
        }
        int[] others = {LEAST, -1, 6, 7, GREATEST};
        for (int i : others) {
            due("pair " + i, x.clash(0, i, 0), NONE);
            due("pair " + i, x.clash(0, i, 1), NONE);
        }
        int[][] whats = {{LEAST, NONE}, {-1, NONE}, {0, 2}, {1, 3}, {2, NONE}, {GREATEST, NONE}};
        for (int[] what : whats) {
            due("what " + what[0], x.clash(0, 5, what[0]), what[1]);
        }
        int[][] gaps = {{LEAST, NONE}, {-1, NONE}, {0, 2}, {1, 2}, {199, 2}, {200, 2}, {201, NONE}, {GREATEST, NONE}};
        for (int[] gap : gaps) {
            due("gap " + gap[0], x.clash(gap[0], 5, 0), gap[1]);
        }
        open(x, POINT, 104, 100);
        x.drop(1);
        due("without a GONE one", x.clash(0, 0, 1), 2);
        due("three pairs", x.clashes(200), 3);
        x.tear(2);
        due("without a TORN one", x.clash(0, 0, 1), 3);
        due("one pair", x.clashes(200), 1);
        due("no second one", x.clash(200, 1, 0), NONE);
        ScaleShop y = new ScaleShop();
        for (int i = 0; i < 30; i++) {
            made(y, POINT, 0, 100, 0, 100 + i, 100);
        }
        due("more pairs than FEATURES", y.clashes(0), 435);
        due("the last one", y.clash(0, 434, 0), 28);
        due("the last one", y.clash(0, 434, 1), 29);
        due("none behind it", y.clash(0, 435, 0), NONE);
    }

    private static void farGreatest() {
        sentence = "Promise 24: the greatest one of their distances from its SET as it is now; 0, 1 if none went";
        ScaleShop x = states(LINE, 100, 100, 110, 101, 120, 100, 130, 103, 140, 100);
        due("none went, over", x.far(0, 0), 0);
        due("none went, under", x.far(0, 1), 1);
        int[] others = {LEAST, -1, 1, 2, 3, 4, GREATEST};
        for (int other : others) {
            due("FEATURE " + other, x.far(other, 0), NONE);
        }
        int[][] whats = {{LEAST, NONE}, {-1, NONE}, {0, 0}, {1, 1}, {2, NONE}, {GREATEST, NONE}};
        for (int[] what : whats) {
            due("what " + what[0], x.far(0, what[0]), what[1]);
        }
        due("the first went", x.plainer(0, 20), 1);
        due("1 away", x.far(0, 0), 1);
        due("two more went", x.plainer(0, 120), 2);
        row(x, "the ends", 0, 100, 100, 140, 100);
        due("3 away", x.far(0, 0), 9);
        due("3 away", x.far(0, 1), 1);
        due("undo()", x.undo(), 3);
        due("1 away", x.far(0, 0), 1);
        due("undo()", x.undo(), 2);
        due("none", x.far(0, 0), 0);
        x.redo();
        x.redo();
        due("3 away again", x.far(0, 0), 9);
        x.drop(0);
        due("GONE", x.far(0, 0), NONE);
        x.undo();
        due("THERE", x.far(0, 0), 9);
        ScaleShop y = new ScaleShop();
        int area = there(y, AREA, 100, 100, 150, 90, 200, 100, 200, 200, 100, 200);
        y.run(1000);
        due("by run()", y.far(area, 0), 100);
        y.shift(area, 0, 0, -20, 0);
        due("as it is now, over", y.far(area, 0), 0);
        due("as it is now, under", y.far(area, 1), 1);
        y.undo();
        y.shift(area, 0, 0, -10, 0);
        // From 150, 90 to the EDGE from 100, 90 to 200, 100: 500 squared by 10100.
        due("a fraction, over", y.far(area, 0), 2500);
        due("a fraction, under", y.far(area, 1), 101);
        due("SMOOTH takes none", number(y.smooth(area)), 1);
        due("HOUSE", y.far(house(y, 500, 500, 510, 510), 1), 1);
        due("POINT", y.far(there(y, POINT, 700, 700), 1), 1);
    }

    private static void farOfStepsThatAreDone() {
        sentence = "Promise 24: the CORNERS that went from it by PLAINER (by STEPS that are done)";
        ScaleShop x = new ScaleShop();
        int line = there(x, LINE, 0, 100, 10, 101, 20, 100, 30, 109, 40, 100);
        x.plainer(line, 20);
        due("1 away", x.far(line, 0), 1);
        x.plainer(line, 400);
        row(x, "the ends", line, 0, 100, 40, 100);
        due("9 away", x.far(line, 0), 81);
        x.undo();
        due("that one is undone", x.far(line, 0), 1);
        x.undo();
        due("both are undone", x.far(line, 0), 0);
        due("both at once", x.plainer(line, 400), 3);
        due("9 away", x.far(line, 0), 81);
        x.undo();
        due("the first alone", x.plainer(line, 20), 1);
        due("what was undone does not count", x.far(line, 0), 1);
        x.shift(line, 2, 0, 30, 0);
        due("even if it has moved away since", x.far(line, 0), 1);
        x.undo();
        x.drop(line);
        x.undo();
        due("1 away still", x.far(line, 0), 1);
        ScaleShop z = new ScaleShop();
        int moved = there(z, LINE, 0, 100, 10, 101, 20, 100, 30, 109, 40, 100);
        z.plainer(moved, 400);
        z.undo();
        z.shift(moved, 1, 0, 30, 0);
        z.shift(moved, 3, 0, 30, 0);
        due("all are undone, and have moved away since, over", z.far(moved, 0), 0);
        due("all are undone, and have moved away since, under", z.far(moved, 1), 1);
        ScaleShop y = new ScaleShop();
        int area = there(y, AREA, 100, 100, 150, 95, 200, 100, 205, 150, 200, 200, 150, 210, 100, 200);
        due("three of an AREA", y.plainer(area, 1000), 3);
        due("the greatest one", y.far(area, 0), 100);
        due("a whole number", y.far(area, 1), 1);
    }

    private static void farBeyondEnds() {
        sentence = "Promise 24: their distances from its SET as it is now";
        int[][] peaks = {{80, 110, 500, 1}, {90, 110, 200, 1}, {100, 110, 100, 1}, {150, 110, 100, 1},
            {200, 110, 100, 1}, {210, 110, 200, 1}, {220, 110, 500, 1}};
        for (int[] peak : peaks) {
            ScaleShop x = new ScaleShop();
            int line = there(x, LINE, 100, 100, peak[0], peak[1], 200, 100);
            due("it went", x.plainer(line, GREATEST), 1);
            due("from " + peak[0] + ", over", x.far(line, 0), peak[2]);
            due("from " + peak[0] + ", under", x.far(line, 1), peak[3]);
            ScaleShop y = new ScaleShop();
            int up = there(y, LINE, 100, 100, peak[1], peak[0], 100, 200);
            due("it went", y.plainer(up, GREATEST), 1);
            due("upwards, over", y.far(up, 0), peak[2]);
        }
    }

    private static void sizeOthers() {
        sentence = "Promise 25: NONE for others, TORN ones, OPEN ones, GONE ones";
        int[][] sizes = {{LEAST, NONE}, {-1, NONE}, {0, 20}, {1, NONE}, {2, NONE}, {3, NONE}, {4, NONE},
            {GREATEST, NONE}};
        ScaleShop x = states(LINE, 0, 0, 10, 10);
        ScaleShop y = states(AREA, 0, 0, 0, 4, 5, 4);
        ScaleShop z = states(POINT, 7, 7);
        for (int[] size : sizes) {
            due("LINE " + size[0], x.size(size[0]), size[1]);
            due("AREA " + size[0], y.size(size[0]), size[1]);
            due("POINT " + size[0], z.size(size[0]), size[0] == 0 ? 0 : NONE);
        }
        due("the shortest LINE", x.size(there(x, LINE, 5, 5, 5, 6)), 1);
        due("back in x, on in y", x.size(there(x, ROAD, 50, 50, 40, 60, 45, 50)), 35);
    }

    private static void atOthers() {
        sentence = "Promise 26: CORNER k: what 0 x, 1 y. NONE for others, TORN ones (of OPEN and GONE ones, too)";
        ScaleShop x = states(LINE, 3, 4, 5, 6, 7, 9);
        int[][] features = {{LEAST, NONE}, {-1, NONE}, {0, 5}, {1, 5}, {2, 5}, {3, NONE}, {4, NONE}, {GREATEST, NONE}};
        for (int[] f : features) {
            due("FEATURE " + f[0], x.at(f[0], 1, 0), f[1]);
        }
        int[][] corners = {{LEAST, NONE}, {-1, NONE}, {0, 3}, {1, 5}, {2, 7}, {3, NONE}, {GREATEST, NONE}};
        for (int[] k : corners) {
            for (int feature = 0; feature < 3; feature++) {
                due("CORNER " + k[0] + " of " + feature, x.at(feature, k[0], 0), k[1]);
            }
        }
        int[][] whats = {{LEAST, NONE}, {-1, NONE}, {0, 7}, {1, 9}, {2, NONE}, {GREATEST, NONE}};
        for (int[] what : whats) {
            due("what " + what[0], x.at(0, 2, what[0]), what[1]);
        }
        due("OPEN without CORNERS", x.at(x.feature(AREA, 0, 0, 0), 0, 0), NONE);
        ScaleShop y = new ScaleShop();
        int line = there(y, LINE, 0, 0, 10, 1, 20, 0);
        y.plainer(line, 20);
        due("what CORNER 2 was is CORNER 1", y.at(line, 1, 0), 20);
        due("no CORNER 2", y.at(line, 2, 0), NONE);
    }

    private static void toldOthers() {
        sentence = "Promise 27: told(): what 0 .. 10; NONE for others, or if there is none such";
        ScaleShop x = new ScaleShop();
        made(x, HOUSE, 9, 100, 8, box(0, 0, 10, 10));
        made(x, HOUSE, 1, 2, 3, box(20, 0, 30, 10));
        made(x, POINT, 4, 5, 6, 500, 500);
        x.tear(x.feature(ROAD, 7, 8, 9));
        x.drop(2);
        x.join(0, 1, 10);
        int[][] want = {{6, 9, 100, 8, 4, 2, 0, 2, NONE, NONE, 4}, {6, 1, 2, 3, 4, 2, 0, 2, NONE, NONE, 4},
            {0, 4, 5, 6, 1, 2, 0, 1, NONE, NONE, NONE}, {3, 7, 8, 9, 0, 0, 1, 0, NONE, NONE, NONE},
            {6, 9, 100, 8, 4, 1, 0, 0, 0, 1, NONE}};
        for (int feature = 0; feature < want.length; feature++) {
            for (int what = 0; what <= 10; what++) {
                due("told(" + feature + ", " + what + ")", x.told(feature, what), want[feature][what]);
            }
            due("what -1", x.told(feature, -1), NONE);
            due("what 11", x.told(feature, 11), NONE);
        }
        int[] others = {LEAST, -1, 5, GREATEST};
        for (int other : others) {
            for (int what = -1; what <= 11; what++) {
                due("told(" + other + ", " + what + ")", x.told(other, what), NONE);
            }
        }
        due("what", x.told(0, LEAST), NONE);
        due("what", x.told(0, GREATEST), NONE);
    }

    private static void stepOthers() {
        sentence = "Promise 28: step(): i done or undone, not forgotten; what 0 .. 3; NONE for others";
        ScaleShop x = new ScaleShop();
        int line = there(x, LINE, 0, 10, 10, 9, 20, 10, 30, 30, 40, 10);
        int area = there(x, AREA, box(100, 100, 120, 120));
        house(x, 200, 200, 210, 210);
        house(x, 220, 200, 230, 210);
        there(x, ROAD, 0, 500, 10, 500);
        there(x, ROAD, 0, 500, 5, 505, 10, 500);
        int point = there(x, POINT, 700, 700);
        x.plainer(line, 20);
        x.smooth(line);
        x.shift(line, 1, 1, 1, 0);
        x.square(area, 0);
        x.grow(area);
        x.join(2, 3, 10);
        x.drop(point);
        x.few(GREATEST, 1);
        x.choose();
        x.run(GREATEST);
        int[][] want = {{1, line, 1, 1}, {2, line, 0, 1}, {3, line, 0, 1}, {5, area, 0, 1}, {4, area, 0, 1},
            {6, 2, 2, 1}, {7, point, 1, 1}, {8, NONE, 1, 1}, {9, NONE, 1, 1}, {10, NONE, 2, 0}};
        due("undo()", x.undo(), 10);
        for (int i = 0; i < want.length; i++) {
            for (int what = 0; what <= 3; what++) {
                due("step(" + (i + 1) + ", " + what + ")", x.step(i + 1, what), want[i][what]);
            }
            due("what -1", x.step(i + 1, -1), NONE);
            due("what 4", x.step(i + 1, 4), NONE);
        }
        int[] others = {LEAST, -1, 0, 11, GREATEST};
        for (int other : others) {
            for (int what = -1; what <= 4; what++) {
                due("step(" + other + ", " + what + ")", x.step(other, what), NONE);
            }
        }
        due("undo()", x.undo(), 9);
        x.shift(line, 1, 1, 1, 0);
        due("the new one", x.step(9, 0), 3);
        due("forgotten", x.step(10, 0), NONE);
    }

    private static void countOthers() {
        sentence = "Promise 29: count(): what 0 .. 7; NONE for others";
        ScaleShop x = scene();
        // Of 15: three OPEN (one of them TORN), one GONE, the others THERE (three of them TORN).
        int[][] whats = {{LEAST, NONE}, {-1, NONE}, {0, 15}, {1, 11}, {2, 1}, {3, 4}, {4, 20}, {5, 1}, {6, 1}, {7, 0},
            {8, NONE}, {GREATEST, NONE}};
        for (int[] what : whats) {
            due("count(" + what[0] + ")", x.count(what[0]), what[1]);
        }
        x.grow(FIRST_HOUSE);
        x.plainer(ARCH, GREATEST);
        due("refusals by 7, not by 8", x.count(7), 1);
        x.join(FIRST_HOUSE, SECOND_HOUSE, 5);
        due("by JOIN, too", x.count(7), 2);
        x.undo();
        x.undo();
        due("not undone", x.count(7), 2);
        due("STEPS that are done", x.count(5), 0);
        due("STEPS that may be done again", x.count(6), 2);
        due("GONE", x.count(2), 0);
        due("CORNERS", x.count(4), 21);
        x.feature(POINT, 0, 0, 0);
        due("forgotten", x.count(6), 0);
        due("FEATURES", x.count(0), 16);
    }

    private static void statusOfNew() {
        sentence = "Promise 30: STATUS";
        ScaleShop x = new ScaleShop();
        due("a new one", x.status(), 0);
        x.drop(0);
        due("refused", x.status(), 1);
        due("told again", x.status(), 1);
        x.feature(0, 0, 0, 0);
        due("done", x.status(), 0);
        x.corner(0, 0, 0);
        x.corner(0, 0, 0);
        due("the latest one alone", x.status(), 6);
        x.done(0);
        due("done", x.status(), 0);
    }
}
