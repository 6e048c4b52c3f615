import java.util.ArrayList;

/**
 * A workshop in which a map is made smaller, step by step, by whole numbers alone: a step is done only if
 * nobody meets anybody anew and nothing comes to another side, and it can be taken back and done again.
 */
public final class ScaleShop {
    /** None, or refused. */
    public static final int NONE = -1;

    private static final int POINT = 0;
    private static final int ROAD = 3;
    private static final int AREA = 5;
    private static final int HOUSE = 6;

    private static final int OPEN = 0;
    private static final int THERE = 1;
    private static final int GONE = 2;

    private static final int NO_SUCH = 1;
    private static final int WRONG_STATE = 2;
    private static final int WRONG_KIND = 3;
    private static final int OUT_OF_BOUNDS = 4;
    private static final int IS_TORN = 5;
    private static final int BAD_CORNERS = 6;
    private static final int NOT_LAWFUL = 7;
    private static final int NOTHING_DONE = 8;

    private static final int BY_PLAINER = 1;
    private static final int BY_SMOOTH = 2;
    private static final int BY_SHIFT = 3;
    private static final int BY_GROW = 4;
    private static final int BY_SQUARE = 5;
    private static final int BY_JOIN = 6;
    private static final int BY_DROP = 7;
    private static final int BY_FEW = 8;
    private static final int BY_CHOOSE = 9;
    private static final int BY_RUN = 10;

    private static final int MOST_FEATURES = 200;
    private static final int MOST_CORNERS = 40;
    private static final int MOST_PLACE = 1000;
    private static final int MOST_RANK = 9;
    private static final int MOST_WIDTH = 100;
    private static final int MOST_TOWN = 9;
    private static final int MOST_SHIFT = 200;
    private static final int MOST_NEIGHBOURS = 20;
    private static final int MOST_JOIN_GAP = 1000;
    private static final int MOST_CLASH_GAP = 200;
    /** Each pass of run() but the last takes a corner away, and no sheet has more of them than this. */
    private static final int MOST_PASSES = MOST_FEATURES * MOST_CORNERS + 1;

    /** Of 0 and 0: no clash, and none stands ahead of it. */
    private static final int BEFORE_ALL_PAIRS = 0;

    /** How a change is told to the Law: by the number of the corner that goes, or by one of these. */
    private static final int CORNERS_MOVE = -1;
    private static final int BECOMES_BOX = -2;

    private final Sheet sheet = new Sheet();
    private final Law law = new Law();
    private final Roads roads = new Roads();
    private final Box box = new Box();
    private final Box otherBox = new Box();
    private final Fraction distance = new Fraction();
    private final Fraction farthest = new Fraction();
    private final boolean[] leaves = new boolean[MOST_FEATURES];
    private final ArrayList<Step> steps = new ArrayList<>();
    private int doneSteps = 0;
    private int sealedSteps = 0;
    private int unlawful = 0;
    private int status = 0;

    public ScaleShop() {
    }

    public int feature(int kind, int rank, int width, int town) {
        if (!isWithin(kind, POINT, HOUSE) || !isWithin(rank, 0, MOST_RANK)) {
            return refuse(OUT_OF_BOUNDS);
        }
        if (!isWithin(width, 0, MOST_WIDTH) || !isWithin(town, 0, MOST_TOWN)) {
            return refuse(OUT_OF_BOUNDS);
        }
        if (sheet.isFull()) {
            return refuse(NOTHING_DONE);
        }
        Feature made = new Feature(kind, rank, width, town);
        made.now.row = new Row(mostCorners(kind), kind >= AREA);
        seal();
        return sheet.add(made);
    }

    public int corner(int feature, int x, int y) {
        Feature f = sheet.find(feature);
        if (f == null) {
            return refuse(NO_SUCH);
        }
        if (f.now.state != OPEN) {
            return refuse(WRONG_STATE);
        }
        if (!isPlace(x, y)) {
            return refuse(OUT_OF_BOUNDS);
        }
        Row row = f.now.row;
        if (row == null) {
            return refuse(IS_TORN);
        }
        if (row.n >= mostCorners(f.now.kind)) {
            return refuse(BAD_CORNERS);
        }
        row.put(x, y);
        status = 0;
        return row.n;
    }

    public boolean tear(int feature) {
        Feature f = sheet.find(feature);
        if (f == null) {
            return deny(NO_SUCH);
        }
        if (f.now.state == GONE) {
            return deny(WRONG_STATE);
        }
        if (f.now.row == null) {
            return deny(IS_TORN);
        }
        f.now.row = null;
        return seal();
    }

    public boolean done(int feature) {
        Feature f = sheet.find(feature);
        if (f == null) {
            return deny(NO_SUCH);
        }
        if (f.now.state != OPEN) {
            return deny(WRONG_STATE);
        }
        Row row = f.now.row;
        if (row == null) {
            return deny(IS_TORN);
        }
        if (row.n < fewestCorners(f.now.kind) || !row.isSound(f.now.kind)) {
            return deny(BAD_CORNERS);
        }
        f.now.state = THERE;
        return seal();
    }

    public int plainer(int feature, int limit) {
        Feature f = sheet.find(feature);
        if (f == null) {
            return refuse(NO_SUCH);
        }
        if (f.now.state != THERE) {
            return refuse(WRONG_STATE);
        }
        if (!f.bends()) {
            return refuse(WRONG_KIND);
        }
        if (limit < 0) {
            return refuse(OUT_OF_BOUNDS);
        }
        if (f.now.row == null) {
            return refuse(IS_TORN);
        }
        int went = thin(f, limit);
        if (went == 0) {
            return refuse(NOTHING_DONE);
        }
        book(BY_PLAINER, feature, went, null);
        return went;
    }

    public boolean smooth(int feature) {
        Feature f = sheet.find(feature);
        if (f == null) {
            return deny(NO_SUCH);
        }
        if (f.now.state != THERE) {
            return deny(WRONG_STATE);
        }
        if (!f.bends()) {
            return deny(WRONG_KIND);
        }
        Row row = f.now.row;
        if (row == null) {
            return deny(IS_TORN);
        }
        law.draft.smoothFrom(row);
        return moveTo(f, feature, BY_SMOOTH);
    }

    public boolean shift(int feature, int k, int dx, int dy, int n) {
        Feature f = sheet.find(feature);
        if (f == null || !f.mayHaveCorner(k)) {
            return deny(NO_SUCH);
        }
        if (f.now.state != THERE) {
            return deny(WRONG_STATE);
        }
        if (!isWithin(dx, -MOST_SHIFT, MOST_SHIFT) || !isWithin(dy, -MOST_SHIFT, MOST_SHIFT)) {
            return deny(OUT_OF_BOUNDS);
        }
        if (!isWithin(n, 0, MOST_NEIGHBOURS)) {
            return deny(OUT_OF_BOUNDS);
        }
        Row row = f.now.row;
        if (row == null) {
            return deny(IS_TORN);
        }
        law.draft.copyFrom(row);
        if (f.bends()) {
            law.draft.pull(k, dx, dy, n);
        } else {
            law.draft.carry(dx, dy);
        }
        return moveTo(f, feature, BY_SHIFT);
    }

    public boolean grow(int house) {
        Feature f = sheet.find(house);
        if (f == null) {
            return deny(NO_SUCH);
        }
        if (f.now.state != THERE) {
            return deny(WRONG_STATE);
        }
        if (f.now.kind != HOUSE) {
            return deny(WRONG_KIND);
        }
        Row row = f.now.row;
        if (row == null) {
            return deny(IS_TORN);
        }
        law.draft.doubleFrom(row);
        return moveTo(f, house, BY_GROW);
    }

    public boolean square(int area, int most) {
        Feature f = sheet.find(area);
        if (f == null) {
            return deny(NO_SUCH);
        }
        if (f.now.state != THERE) {
            return deny(WRONG_STATE);
        }
        if (f.now.kind != AREA) {
            return deny(WRONG_KIND);
        }
        if (most < 0) {
            return deny(OUT_OF_BOUNDS);
        }
        Row row = f.now.row;
        if (row == null) {
            return deny(IS_TORN);
        }
        box.cover(row);
        law.draft.boxFrom(box);
        if (law.draft.doubleArea() - row.doubleArea() > most) {
            return deny(OUT_OF_BOUNDS);
        }
        if (!law.allows(sheet, f, BECOMES_BOX)) {
            return deny(NOT_LAWFUL);
        }
        f.reshape(law.draft);
        f.now.kind = HOUSE;
        return book(BY_SQUARE, area, 0, null);
    }

    public int join(int first, int second, int gap) {
        Feature f = sheet.find(first);
        Feature g = sheet.find(second);
        if (f == null || g == null) {
            return refuse(NO_SUCH);
        }
        if (f.now.state != THERE || g.now.state != THERE) {
            return refuse(WRONG_STATE);
        }
        if (f.now.kind != HOUSE || g.now.kind != HOUSE) {
            return refuse(WRONG_KIND);
        }
        if (!isWithin(gap, 0, MOST_JOIN_GAP)) {
            return refuse(OUT_OF_BOUNDS);
        }
        Row row = f.now.row;
        Row other = g.now.row;
        if (row == null || other == null) {
            return refuse(IS_TORN);
        }
        distance.between(row, other);
        if (distance.isOver(gap)) {
            return refuse(OUT_OF_BOUNDS);
        }
        box.cover(row);
        box.stretch(other);
        law.draft.boxFrom(box);
        if (!law.isFreeFor(sheet, f, g)) {
            return refuse(NOT_LAWFUL);
        }
        if (sheet.isFull() || f == g) {
            return refuse(NOTHING_DONE);
        }
        return unite(f, g, first, second);
    }

    public boolean drop(int feature) {
        Feature f = sheet.find(feature);
        if (f == null) {
            return deny(NO_SUCH);
        }
        if (f.now.state != THERE) {
            return deny(WRONG_STATE);
        }
        if (f.now.row == null) {
            return deny(IS_TORN);
        }
        f.leave(doneSteps + 1);
        return book(BY_DROP, feature, 1, null);
    }

    public int few(int least, int many) {
        if (least < 0 || !isWithin(many, 0, MOST_FEATURES)) {
            return refuse(OUT_OF_BOUNDS);
        }
        // All are judged before one goes, since each that went would make room among the greatest ones.
        for (int i = 0; i < sheet.total; i++) {
            leaves[i] = isSmallHouse(i, least) && rankInTown(i) >= many;
        }
        int went = 0;
        for (int i = 0; i < sheet.total; i++) {
            Feature f = sheet.find(i);
            if (f != null && leaves[i]) {
                f.leave(doneSteps + 1);
                went++;
            }
        }
        if (went == 0) {
            return refuse(NOTHING_DONE);
        }
        book(BY_FEW, NONE, went, null);
        return went;
    }

    public int choose() {
        roads.gather(sheet);
        int went = roads.leaveOut(doneSteps + 1);
        if (went == 0) {
            return refuse(NOTHING_DONE);
        }
        book(BY_CHOOSE, NONE, went, null);
        return went;
    }

    public int run(int limit) {
        if (limit < 0) {
            return refuse(OUT_OF_BOUNDS);
        }
        int total = 0;
        for (int pass = 0; pass < MOST_PASSES; pass++) {
            int before = total;
            for (int i = 0; i < sheet.total; i++) {
                Feature f = sheet.find(i);
                if (f != null && f.bends() && sheet.rowThere(i) != null) {
                    total += thin(f, limit);
                }
            }
            if (total == before) {
                break;
            }
        }
        if (total == 0) {
            return refuse(NOTHING_DONE);
        }
        book(BY_RUN, NONE, total, null);
        return total;
    }

    public int undo() {
        if (doneSteps <= sealedSteps || doneSteps > steps.size()) {
            return refuse(NOTHING_DONE);
        }
        Step latest = steps.get(doneSteps - 1);
        latest.takeBack();
        if (latest.made != null) {
            sheet.removeLast();
        }
        doneSteps--;
        status = 0;
        return doneSteps + 1;
    }

    public int redo() {
        if (doneSteps >= steps.size()) {
            return refuse(NOTHING_DONE);
        }
        Step latest = steps.get(doneSteps);
        latest.repeat();
        if (latest.made != null) {
            sheet.add(latest.made);
        }
        doneSteps++;
        status = 0;
        return doneSteps;
    }

    public boolean meets(int first, int second) {
        Row row = sheet.rowThere(first);
        Row other = sheet.rowThere(second);
        return row != null && other != null && row.touches(other);
    }

    public int inside(int x, int y, int ring) {
        Row row = sheet.rowThere(ring);
        if (row == null || !row.ring || !isPlace(x, y)) {
            return NONE;
        }
        return row.where(x, y);
    }

    public int side(int x, int y, int feature, int k) {
        // The document does not ask that it be there: whoever has such an edge is looked at.
        Feature f = sheet.find(feature);
        Row row = f == null ? null : f.now.row;
        if (row == null || k < 0 || k >= row.edges() || !isPlace(x, y)) {
            return 0;
        }
        int turn = row.turn(k, x, y);
        if (turn == 0) {
            return 0;
        }
        return turn > 0 ? 1 : -1;
    }

    public long near(int first, int second, int what) {
        Row row = sheet.rowThere(first);
        Row other = sheet.rowThere(second);
        if (row == null || other == null || !isWithin(what, 0, 1)) {
            return NONE;
        }
        distance.between(row, other);
        return distance.reduced(what);
    }

    public int clashes(int gap) {
        if (!isWithin(gap, 0, MOST_CLASH_GAP)) {
            return NONE;
        }
        int found = 0;
        int pair = nextClash(gap, BEFORE_ALL_PAIRS);
        for (int i = 0; i < MOST_FEATURES * MOST_FEATURES && pair != NONE; i++) {
            found++;
            pair = nextClash(gap, pair);
        }
        return found;
    }

    public int clash(int gap, int i, int what) {
        if (!isWithin(gap, 0, MOST_CLASH_GAP) || !isWithin(i, 0, MOST_FEATURES * MOST_FEATURES)) {
            return NONE;
        }
        if (!isWithin(what, 0, 1)) {
            return NONE;
        }
        int pair = nextClash(gap, BEFORE_ALL_PAIRS);
        for (int k = 0; k < i && pair != NONE; k++) {
            pair = nextClash(gap, pair);
        }
        if (pair == NONE) {
            return NONE;
        }
        return what == 0 ? pair / MOST_FEATURES : pair % MOST_FEATURES;
    }

    public long far(int feature, int what) {
        Feature f = sheet.find(feature);
        Row row = sheet.rowThere(feature);
        if (f == null || row == null || !isWithin(what, 0, 1)) {
            return NONE;
        }
        farthest.become(0, 1);
        for (int i = 0; i < f.now.went && i < f.lost.n; i++) {
            distance.clear();
            distance.offerFrom(f.lost.x[i], f.lost.y[i], row);
            if (farthest.isBelow(distance)) {
                farthest.become(distance.over, distance.under);
            }
        }
        return farthest.reduced(what);
    }

    public long size(int feature) {
        Row row = sheet.rowThere(feature);
        if (row == null) {
            return NONE;
        }
        return row.ring ? row.doubleArea() : row.length();
    }

    public int at(int feature, int k, int what) {
        Feature f = sheet.find(feature);
        if (f == null || !isWithin(what, 0, 1)) {
            return NONE;
        }
        Row row = f.now.row;
        if (row == null || k < 0 || k >= row.n) {
            return NONE;
        }
        return what == 0 ? row.x[k] : row.y[k];
    }

    public int told(int feature, int what) {
        Feature f = sheet.find(feature);
        if (f == null) {
            return NONE;
        }
        switch (what) {
            case 0: return f.now.kind;
            case 1: return f.rank;
            case 2: return f.width;
            case 3: return f.town;
            case 4: return f.now.row == null ? 0 : f.now.row.n;
            case 5: return f.now.state;
            case 6: return f.now.row == null ? 1 : 0;
            case 7: return f.now.goneBy;
            case 8: return f.firstPart;
            case 9: return f.secondPart;
            case 10: return f.now.joinedTo;
            default: return NONE;
        }
    }

    public int step(int i, int what) {
        if (i < 1 || i > steps.size()) {
            return NONE;
        }
        Step s = steps.get(i - 1);
        switch (what) {
            case 0: return s.which;
            case 1: return s.first;
            case 2: return s.amount;
            case 3: return i <= doneSteps ? 1 : 0;
            default: return NONE;
        }
    }

    public int count(int what) {
        switch (what) {
            case 0: return sheet.total;
            case 1: return sheet.inState(THERE);
            case 2: return sheet.inState(GONE);
            case 3: return sheet.torn();
            case 4: return sheet.cornersThere();
            case 5: return doneSteps;
            case 6: return steps.size() - doneSteps;
            case 7: return unlawful;
            default: return NONE;
        }
    }

    public int status() {
        return status;
    }

    private static boolean isWithin(int value, int least, int most) {
        return value >= least && value <= most;
    }

    private static boolean isPlace(int x, int y) {
        return isWithin(x, 0, MOST_PLACE) && isWithin(y, 0, MOST_PLACE);
    }

    private static int mostCorners(int kind) {
        return kind == POINT ? 1 : MOST_CORNERS;
    }

    private static int fewestCorners(int kind) {
        if (kind == POINT) {
            return 1;
        }
        return kind < AREA ? 2 : 3;
    }

    private int refuse(int why) {
        status = why;
        if (why == NOT_LAWFUL) {
            unlawful++;
        }
        return NONE;
    }

    private boolean deny(int why) {
        refuse(why);
        return false;
    }

    /** The sheet was changed by what is no step: nothing before it can be taken back or done again. */
    private boolean seal() {
        forgetUndone();
        sealedSteps = doneSteps;
        status = 0;
        return true;
    }

    private void forgetUndone() {
        for (int i = steps.size() - 1; i >= doneSteps && i >= 0; i--) {
            steps.remove(i);
        }
    }

    /** Makes one step of all changes since the last one; made: the house that a join made, or null. */
    private boolean book(int which, int first, int amount, Feature made) {
        forgetUndone();
        Step latest = new Step(which, first, amount, made);
        for (int i = 0; i < sheet.total; i++) {
            Feature f = sheet.find(i);
            if (f != null && f.former != null) {
                latest.changes = new Change(f, latest.changes);
                f.former = null;
            }
        }
        steps.add(latest);
        doneSteps = steps.size();
        status = 0;
        return true;
    }

    private boolean moveTo(Feature f, int number, int which) {
        if (!law.allows(sheet, f, CORNERS_MOVE)) {
            return deny(NOT_LAWFUL);
        }
        if (law.draft.isAlike(f.now.row)) {
            return deny(NOTHING_DONE);
        }
        f.reshape(law.draft);
        return book(which, number, 0, null);
    }

    /** How many corners of one feature go. */
    private int thin(Feature f, int limit) {
        int went = 0;
        for (int i = 0; i < MOST_CORNERS; i++) {
            int k = law.cornerThatGoes(sheet, f, limit);
            if (k == NONE) {
                break;
            }
            f.lose(k);
            went++;
        }
        return went;
    }

    private int unite(Feature f, Feature g, int first, int second) {
        Feature made = new Feature(HOUSE, f.rank, f.width, f.town);
        made.now.row = law.draft.copy();
        made.now.state = THERE;
        made.firstPart = first;
        made.secondPart = second;
        f.leave(doneSteps + 1);
        g.leave(doneSteps + 1);
        int number = sheet.add(made);
        f.now.joinedTo = number;
        g.now.joinedTo = number;
        book(BY_JOIN, first, 2, made);
        return number;
    }

    private boolean isSmallHouse(int number, int least) {
        Row row = sheet.houseThere(number);
        return row != null && row.doubleArea() < least;
    }

    /** How many houses of its town come before it, by size and then by number. */
    private int rankInTown(int number) {
        Feature house = sheet.find(number);
        Row row = sheet.houseThere(number);
        if (house == null || row == null) {
            return 0;
        }
        int before = 0;
        for (int i = 0; i < sheet.total; i++) {
            Feature f = sheet.find(i);
            Row other = sheet.houseThere(i);
            if (f == null || other == null || f.town != house.town) {
                continue;
            }
            int more = other.doubleArea() - row.doubleArea();
            if (more > 0 || more == 0 && i < number) {
                before++;
            }
        }
        return before;
    }

    /** The first clash behind the pair told; a pair is the lower number times 200, and the higher one. */
    private int nextClash(int gap, int pair) {
        int first = pair / MOST_FEATURES;
        for (int low = first; low < sheet.total; low++) {
            int behind = low == first ? pair % MOST_FEATURES : low;
            for (int high = behind + 1; high < sheet.total; high++) {
                if (isClash(low, high, gap)) {
                    return low * MOST_FEATURES + high;
                }
            }
        }
        return NONE;
    }

    private boolean isClash(int low, int high, int gap) {
        Feature f = sheet.find(low);
        Feature g = sheet.find(high);
        Row row = sheet.rowThere(low);
        Row other = sheet.rowThere(high);
        if (f == null || g == null || row == null || other == null) {
            return false;
        }
        int doubleReach = f.width + g.width + 2 * gap;
        box.cover(row);
        otherBox.cover(other);
        // Boxes that lie too far apart spare the dear search for the distance.
        if (4 * box.squareApart(otherBox) >= doubleReach * doubleReach) {
            return false;
        }
        distance.between(row, other);
        return distance.over > 0 && distance.isHalfBelow(doubleReach);
    }

    /** A row of corners: a place, a line or a ring. A draft's corners may lie off the sheet. */
    static final class Row {
        final int[] x;
        final int[] y;
        int n = 0;
        boolean ring;

        Row(int room, boolean ring) {
            int places = Math.max(room, 1);
            this.x = new int[places];
            this.y = new int[places];
            this.ring = ring;
        }

        void put(int px, int py) {
            if (n < x.length) {
                x[n] = px;
                y[n] = py;
                n++;
            }
        }

        void clear(boolean asRing) {
            n = 0;
            ring = asRing;
        }

        void copyFrom(Row other) {
            clear(other.ring);
            for (int i = 0; i < other.n; i++) {
                put(other.x[i], other.y[i]);
            }
        }

        Row copy() {
            Row made = new Row(n, ring);
            made.copyFrom(this);
            return made;
        }

        void cut(int k) {
            for (int i = Math.max(k, 0); i < n - 1; i++) {
                x[i] = x[i + 1];
                y[i] = y[i + 1];
            }
            n = Math.max(n - 1, 0);
        }

        int edges() {
            if (n < 2) {
                return 0;
            }
            return ring ? n : n - 1;
        }

        /** What the set is made of: edges, or the one corner of a point as an edge without length. */
        int parts() {
            return n == 1 ? 1 : edges();
        }

        int next(int i) {
            return i + 1 < n ? i + 1 : 0;
        }

        int previous(int i) {
            return i > 0 ? i - 1 : n - 1;
        }

        boolean isEnd(int i) {
            return !ring && (i == 0 || i == n - 1);
        }

        /** Above 0 if a place lies left of an edge, below 0 if right of it. */
        int turn(int i, int px, int py) {
            int j = i + 1 < n ? i + 1 : 0;
            return (x[j] - x[i]) * (py - y[i]) - (y[j] - y[i]) * (px - x[i]);
        }

        boolean isOn(int i, int px, int py) {
            int j = i + 1 < n ? i + 1 : 0;
            if (px < x[i] && px < x[j] || px > x[i] && px > x[j]) {
                return false;
            }
            if (py < y[i] && py < y[j] || py > y[i] && py > y[j]) {
                return false;
            }
            return turn(i, px, py) == 0;
        }

        boolean isOnSet(int px, int py) {
            for (int i = 0; i < parts(); i++) {
                if (isOn(i, px, py)) {
                    return true;
                }
            }
            return false;
        }

        boolean isCorner(int i, int px, int py) {
            return x[i] == px && y[i] == py;
        }

        boolean isAlike(Row other) {
            if (other == null || other.n != n) {
                return false;
            }
            for (int i = 0; i < n; i++) {
                if (!isCorner(i, other.x[i], other.y[i])) {
                    return false;
                }
            }
            return true;
        }

        boolean touches(Row other) {
            int own = parts();
            int others = other.parts();
            for (int i = 0; i < own; i++) {
                for (int j = 0; j < others; j++) {
                    if (partsMeet(i, other, j)) {
                        return true;
                    }
                }
            }
            return false;
        }

        /** Calls nothing, since the deepest chains of calls end here. */
        boolean partsMeet(int i, Row other, int j) {
            int i2 = i + 1 < n ? i + 1 : 0;
            int j2 = j + 1 < other.n ? j + 1 : 0;
            int ax = x[i];
            int ay = y[i];
            int bx = x[i2];
            int by = y[i2];
            int cx = other.x[j];
            int cy = other.y[j];
            int dx = other.x[j2];
            int dy = other.y[j2];
            if (ax < cx && bx < cx && ax < dx && bx < dx || ax > cx && bx > cx && ax > dx && bx > dx) {
                return false;
            }
            if (ay < cy && by < cy && ay < dy && by < dy || ay > cy && by > cy && ay > dy && by > dy) {
                return false;
            }
            int c = (bx - ax) * (cy - ay) - (by - ay) * (cx - ax);
            int d = (bx - ax) * (dy - ay) - (by - ay) * (dx - ax);
            if (c > 0 && d > 0 || c < 0 && d < 0) {
                return false;
            }
            int a = (dx - cx) * (ay - cy) - (dy - cy) * (ax - cx);
            int b = (dx - cx) * (by - cy) - (dy - cy) * (bx - cx);
            return !(a > 0 && b > 0 || a < 0 && b < 0);
        }

        /** Of a ring: 1 inside, 2 on its set, 0 outside. Calls nothing, as above. */
        int where(int px, int py) {
            boolean odd = false;
            for (int i = 0; i < n; i++) {
                int j = i + 1 < n ? i + 1 : 0;
                // A ray to the right misses an edge that lies above, below or left of the place.
                if (y[i] > py && y[j] > py || y[i] < py && y[j] < py || x[i] < px && x[j] < px) {
                    continue;
                }
                int turn = (x[j] - x[i]) * (py - y[i]) - (y[j] - y[i]) * (px - x[i]);
                if (turn == 0 && (x[i] <= px || x[j] <= px)) {
                    return 2;
                }
                if (y[i] > py != y[j] > py && turn > 0 == y[j] > y[i]) {
                    odd = !odd;
                }
            }
            return odd ? 1 : 0;
        }

        boolean isSound(int kind) {
            for (int i = 0; i < edges(); i++) {
                if (!isEdgeFree(i, i + 1)) {
                    return false;
                }
            }
            return kind != HOUSE || hasRightAngles();
        }

        /** Whether an edge has length and only what it may have in common with those from a number on. */
        boolean isEdgeFree(int i, int from) {
            if (isCorner(i, x[next(i)], y[next(i)])) {
                return false;
            }
            for (int j = from; j < edges(); j++) {
                if (j == i) {
                    continue;
                }
                boolean free;
                if (next(i) == j) {
                    free = !foldsBack(j);
                } else if (next(j) == i) {
                    free = !foldsBack(i);
                } else {
                    free = !partsMeet(i, this, j);
                }
                if (!free) {
                    return false;
                }
            }
            return true;
        }

        /** Whether the edges on both sides of a corner lie one on the other. Calls nothing, as above. */
        private boolean foldsBack(int k) {
            int a = k > 0 ? k - 1 : n - 1;
            int c = k + 1 < n ? k + 1 : 0;
            int aheadX = x[a] - x[k];
            int aheadY = y[a] - y[k];
            int behindX = x[c] - x[k];
            int behindY = y[c] - y[k];
            return aheadX * behindY == aheadY * behindX && aheadX * behindX + aheadY * behindY > 0;
        }

        private boolean hasRightAngles() {
            for (int k = 0; k < n; k++) {
                int a = previous(k);
                int c = next(k);
                if ((x[a] - x[k]) * (x[c] - x[k]) + (y[a] - y[k]) * (y[c] - y[k]) != 0) {
                    return false;
                }
            }
            return true;
        }

        boolean arePlaces() {
            for (int i = 0; i < n; i++) {
                if (!isPlace(x[i], y[i])) {
                    return false;
                }
            }
            return true;
        }

        /** Twice the area of the triangle of a corner and its neighbours. */
        int doubleTriangle(int k) {
            int c = next(k);
            return Math.abs(turn(previous(k), x[c], y[c]));
        }

        int doubleArea() {
            int sum = 0;
            for (int i = 0; i < n; i++) {
                int j = next(i);
                sum += x[i] * y[j] - x[j] * y[i];
            }
            return Math.abs(sum);
        }

        int length() {
            int sum = 0;
            for (int i = 0; i < n - 1; i++) {
                sum += Math.abs(x[i + 1] - x[i]) + Math.abs(y[i + 1] - y[i]);
            }
            return sum;
        }

        void smoothFrom(Row old) {
            clear(old.ring);
            for (int i = 0; i < old.n; i++) {
                int a = old.previous(i);
                int c = old.next(i);
                if (old.isEnd(i)) {
                    put(old.x[i], old.y[i]);
                } else {
                    put((old.x[a] + 2 * old.x[i] + old.x[c]) / 4, (old.y[a] + 2 * old.y[i] + old.y[c]) / 4);
                }
            }
        }

        void doubleFrom(Row old) {
            clear(old.ring);
            for (int i = 0; i < old.n; i++) {
                put(2 * old.x[i] - old.x[0], 2 * old.y[i] - old.y[0]);
            }
        }

        void boxFrom(Box box) {
            clear(true);
            put(box.left, box.low);
            put(box.right, box.low);
            put(box.right, box.high);
            put(box.left, box.high);
        }

        void carry(int dx, int dy) {
            for (int i = 0; i < n; i++) {
                x[i] += dx;
                y[i] += dy;
            }
        }

        /** Moves a corner, and those up to reach corners from it the less the farther they are. */
        void pull(int k, int dx, int dy, int reach) {
            int whole = Math.max(reach, 0) + 1;
            for (int i = 0; i < n; i++) {
                int away = Math.abs(i - k);
                if (ring) {
                    away = Math.min(away, n - away);
                }
                if (away < whole && !isEnd(i)) {
                    x[i] += dx * (whole - away) / whole;
                    y[i] += dy * (whole - away) / whole;
                }
            }
        }
    }

    /** The least box along both axes that has what it covers. */
    static final class Box {
        int left = 0;
        int low = 0;
        int right = 0;
        int high = 0;

        void begin(int px, int py) {
            left = px;
            right = px;
            low = py;
            high = py;
        }

        void take(int px, int py) {
            left = px < left ? px : left;
            right = px > right ? px : right;
            low = py < low ? py : low;
            high = py > high ? py : high;
        }

        void cover(Row row) {
            begin(row.x[0], row.y[0]);
            stretch(row);
        }

        void stretch(Row row) {
            for (int i = 0; i < row.n; i++) {
                take(row.x[i], row.y[i]);
            }
        }

        boolean isApart(Box other) {
            return squareApart(other) > 0;
        }

        /** The square of how far two boxes are apart. */
        int squareApart(Box other) {
            int across = Math.max(0, Math.max(other.left - right, left - other.right));
            int along = Math.max(0, Math.max(other.low - high, low - other.high));
            return across * across + along * along;
        }
    }

    /** The square of a distance: over by under; under is 0 as long as nothing was offered. */
    static final class Fraction {
        long over = 0;
        long under = 0;

        void clear() {
            become(0, 0);
        }

        void become(long newOver, long newUnder) {
            over = newOver;
            under = newUnder;
        }

        boolean isBelow(Fraction other) {
            return over * other.under < other.over * under;
        }

        boolean isOver(int gap) {
            return over > (long) gap * gap * under;
        }

        boolean isHalfBelow(int doubleReach) {
            return 4 * over < (long) doubleReach * doubleReach * under;
        }

        void offer(long newOver, long newUnder) {
            if (under == 0 || newOver * under < over * newUnder) {
                over = newOver;
                under = newUnder;
            }
        }

        /** Offers the distances of a place from all parts of a row. */
        void offerFrom(int px, int py, Row row) {
            for (int i = 0; i < row.parts(); i++) {
                offerPart(px, py, row, i);
            }
        }

        private void offerPart(int px, int py, Row row, int i) {
            int j = row.next(i);
            int ax = row.x[j] - row.x[i];
            int ay = row.y[j] - row.y[i];
            int qx = px - row.x[i];
            int qy = py - row.y[i];
            int whole = ax * ax + ay * ay;
            int along = ax * qx + ay * qy;
            if (along <= 0) {
                offer(qx * qx + qy * qy, 1);
            } else if (along >= whole) {
                offer((qx - ax) * (qx - ax) + (qy - ay) * (qy - ay), 1);
            } else {
                long turn = row.turn(i, px, py);
                offer(turn * turn, whole);
            }
        }

        void between(Row row, Row other) {
            if (row.touches(other)) {
                become(0, 1);
                return;
            }
            // Of two that do not meet, the least way begins at a corner of one of them.
            clear();
            for (int i = 0; i < row.n; i++) {
                offerFrom(row.x[i], row.y[i], other);
            }
            for (int i = 0; i < other.n; i++) {
                offerFrom(other.x[i], other.y[i], row);
            }
        }

        /** The numerator (what 0) or denominator without what divides both. */
        long reduced(int what) {
            long divisor = over;
            long rest = under;
            // Euclid's way halves the rest in two turns, so 200 are more than any long needs.
            for (int i = 0; i < 200 && rest != 0; i++) {
                long next = divisor % rest;
                divisor = rest;
                rest = next;
            }
            if (divisor == 0) {
                return what == 0 ? 0 : 1;
            }
            return (what == 0 ? over : under) / divisor;
        }
    }

    /** How a feature is at one time: what steps change, and undo() brings back. */
    static final class Look {
        int kind;
        int state = OPEN;
        /** Null if the feature is torn. */
        Row row = null;
        int goneBy = 0;
        int joinedTo = NONE;
        int went = 0;

        Look(int kind) {
            this.kind = kind;
        }

        Look copy() {
            Look made = new Look(kind);
            made.state = state;
            made.row = row;
            made.goneBy = goneBy;
            made.joinedTo = joinedTo;
            made.went = went;
            return made;
        }
    }

    /** A feature: what never changes, and how it looks. */
    static final class Feature {
        final int rank;
        final int width;
        final int town;
        int firstPart = NONE;
        int secondPart = NONE;
        /** The corners that went; those behind the look's count belong to undone steps. */
        final Row lost;
        Look now;
        /** How it looked before the step that is under way; null if that did not change it. */
        Look former = null;

        Feature(int kind, int rank, int width, int town) {
            this.rank = rank;
            this.width = width;
            this.town = town;
            this.lost = new Row(kind > POINT && kind <= AREA ? MOST_CORNERS : 1, false);
            this.now = new Look(kind);
        }

        /** Lines and areas: their corners move and go one by one. */
        boolean bends() {
            return now.kind > POINT && now.kind <= AREA;
        }

        /** A torn feature's corners cannot be looked up, so any number that is none below 0 may be one. */
        boolean mayHaveCorner(int k) {
            return k >= 0 && (now.row == null || k < now.row.n);
        }

        private void keepFormer() {
            if (former == null) {
                former = now;
                now = former.copy();
            }
        }

        void leave(int stepNumber) {
            keepFormer();
            now.state = GONE;
            now.goneBy = stepNumber;
        }

        void reshape(Row draft) {
            keepFormer();
            now.row = draft.copy();
        }

        void lose(int k) {
            if (now.row == null || k < 0 || k >= now.row.n) {
                return;
            }
            // The row is copied once a step, not once a corner: rows that are kept are counted.
            if (former == null) {
                reshape(now.row);
            }
            lost.n = now.went;
            lost.put(now.row.x[k], now.row.y[k]);
            now.went = lost.n;
            now.row.cut(k);
        }
    }

    /** What a step made of one feature. */
    static final class Change {
        final Feature feature;
        final Look before;
        final Look after;
        final Change next;

        Change(Feature feature, Change next) {
            this.feature = feature;
            this.before = feature.former;
            this.after = feature.now;
            this.next = next;
        }
    }

    /** A step that was done, and may have been undone. */
    static final class Step {
        final int which;
        final int first;
        final int amount;
        /** The house that a join made, or null. */
        final Feature made;
        Change changes = null;

        Step(int which, int first, int amount, Feature made) {
            this.which = which;
            this.first = first;
            this.amount = amount;
            this.made = made;
        }

        void takeBack() {
            for (Change c = changes; c != null; c = c.next) {
                c.feature.now = c.before;
            }
        }

        void repeat() {
            for (Change c = changes; c != null; c = c.next) {
                c.feature.now = c.after;
            }
        }
    }

    /** All features by their numbers. */
    static final class Sheet {
        private final Feature[] features = new Feature[MOST_FEATURES];
        int total = 0;

        boolean isFull() {
            return total >= features.length;
        }

        int add(Feature made) {
            if (isFull()) {
                return NONE;
            }
            features[total] = made;
            total++;
            return total - 1;
        }

        void removeLast() {
            total = Math.max(total - 1, 0);
        }

        Feature find(int number) {
            return number >= 0 && number < total ? features[number] : null;
        }

        /** The row of one that is there and not torn, or null. */
        Row rowThere(int number) {
            Feature f = find(number);
            return f != null && f.now.state == THERE ? f.now.row : null;
        }

        Row houseThere(int number) {
            Feature f = find(number);
            return f != null && f.now.kind == HOUSE ? rowThere(number) : null;
        }

        int inState(int state) {
            int found = 0;
            for (int i = 0; i < total; i++) {
                Feature f = find(i);
                if (f != null && f.now.state == state) {
                    found++;
                }
            }
            return found;
        }

        int torn() {
            int found = 0;
            for (int i = 0; i < total; i++) {
                Feature f = find(i);
                if (f != null && f.now.row == null) {
                    found++;
                }
            }
            return found;
        }

        int cornersThere() {
            int found = 0;
            for (int i = 0; i < total; i++) {
                Row row = rowThere(i);
                found += row == null ? 0 : row.n;
            }
            return found;
        }
    }

    /** Whether a feature may become what the draft is. */
    static final class Law {
        final Row draft = new Row(MOST_CORNERS, false);
        private final Row triangle = new Row(3, true);
        private final Row way = new Row(2, false);
        private final Box reach = new Box();
        private final Box otherBox = new Box();
        private final int[] areas = new int[MOST_CORNERS];

        /** The corner that PLAINER takes next, or NONE. */
        int cornerThatGoes(Sheet sheet, Feature f, int limit) {
            Row row = f.now.row;
            if (row == null || row.ring && row.n <= 3) {
                return NONE;
            }
            for (int k = 0; k < row.n; k++) {
                areas[k] = row.isEnd(k) ? NONE : row.doubleTriangle(k);
            }
            for (int tries = 0; tries < row.n; tries++) {
                int k = leastArea(row.n, limit);
                if (k == NONE) {
                    return NONE;
                }
                draft.copyFrom(row);
                draft.cut(k);
                if (isBare(sheet, f, row.x[k], row.y[k]) && allows(sheet, f, k)) {
                    return k;
                }
                areas[k] = NONE;
            }
            return NONE;
        }

        private int leastArea(int corners, int limit) {
            int best = NONE;
            for (int k = 0; k < corners; k++) {
                if (areas[k] >= 0 && areas[k] <= limit && (best == NONE || areas[k] < areas[best])) {
                    best = k;
                }
            }
            return best;
        }

        /** Whether no feature but one has a point at a place. */
        private boolean isBare(Sheet sheet, Feature f, int px, int py) {
            for (int i = 0; i < sheet.total; i++) {
                Row other = sheet.rowThere(i);
                if (other != null && sheet.find(i) != f && other.isOnSet(px, py)) {
                    return false;
                }
            }
            return true;
        }

        /** Whether the change to the draft is lawful; manner: the corner that goes, or how corners move. */
        boolean allows(Sheet sheet, Feature f, int manner) {
            Row old = f.now.row;
            if (old == null || !draft.arePlaces()) {
                return false;
            }
            // Where a corner went, only the edge over the gap is new: all others are free of one another.
            int gap = draft.previous(manner < draft.n ? manner : 0);
            int kind = manner == BECOMES_BOX ? HOUSE : f.now.kind;
            if (manner >= 0 ? !draft.isEdgeFree(gap, 0) : !draft.isSound(kind)) {
                return false;
            }
            measureReach(old, manner);
            for (int i = 0; i < sheet.total; i++) {
                Row other = sheet.rowThere(i);
                if (other == null || sheet.find(i) == f) {
                    continue;
                }
                otherBox.cover(other);
                // Beyond the box of all that moves, nothing can meet anew or come to another side.
                if (!reach.isApart(otherBox) && !isAsBefore(old, other, manner)) {
                    return false;
                }
            }
            return true;
        }

        /** The box of all edges that change, as they were and as they become. */
        private void measureReach(Row old, int manner) {
            if (manner >= 0) {
                reach.begin(old.x[manner], old.y[manner]);
                reach.take(old.x[old.previous(manner)], old.y[old.previous(manner)]);
                reach.take(old.x[old.next(manner)], old.y[old.next(manner)]);
                return;
            }
            reach.cover(old);
            reach.stretch(draft);
        }

        private boolean isAsBefore(Row old, Row other, int manner) {
            if (old.touches(other) != draft.touches(other)) {
                return false;
            }
            if (draft.ring && !holdsAsBefore(old, other)) {
                return false;
            }
            if (other.ring && isIn(other, old) != isIn(other, draft)) {
                return false;
            }
            if (old.n == 1) {
                return isWayFree(old, other);
            }
            if (manner == BECOMES_BOX) {
                return true;
            }
            return manner == CORNERS_MOVE ? !isSweptByMove(old, other) : !isSweptByCut(old, other, manner);
        }

        private boolean holdsAsBefore(Row old, Row other) {
            for (int i = 0; i < other.n; i++) {
                boolean before = old.where(other.x[i], other.y[i]) == 1;
                if (before != (draft.where(other.x[i], other.y[i]) == 1)) {
                    return false;
                }
            }
            return true;
        }

        private static boolean isIn(Row ring, Row row) {
            return ring.where(row.x[0], row.y[0]) == 1;
        }

        /** Whether a point's way has none of the other's points but where the point was. */
        private boolean isWayFree(Row old, Row other) {
            way.clear(false);
            way.put(old.x[0], old.y[0]);
            way.put(draft.x[0], draft.y[0]);
            for (int i = 0; i < other.parts(); i++) {
                if (!way.partsMeet(0, other, i)) {
                    continue;
                }
                int j = other.next(i);
                if (!other.isOn(i, old.x[0], old.y[0])
                    || leadsTo(other.x[i], other.y[i]) || leadsTo(other.x[j], other.y[j])) {
                    return false;
                }
            }
            return true;
        }

        /** Whether a place lies straight ahead on the way. */
        private boolean leadsTo(int px, int py) {
            int ahead = (way.x[1] - way.x[0]) * (px - way.x[0]) + (way.y[1] - way.y[0]) * (py - way.y[0]);
            return way.turn(0, px, py) == 0 && ahead > 0;
        }

        private boolean isSweptByCut(Row old, Row other, int k) {
            int a = old.previous(k);
            int c = old.next(k);
            setTriangle(old, a, old, k, old, c);
            return holdsCorner(other, old, a, old, c);
        }

        private boolean isSweptByMove(Row old, Row other) {
            for (int i = 0; i < old.edges(); i++) {
                int j = old.next(i);
                // What stays at its place is spared; null spares nothing.
                Row begin = draft.isCorner(i, old.x[i], old.y[i]) ? old : null;
                Row end = draft.isCorner(j, old.x[j], old.y[j]) ? old : null;
                if (begin != null && end != null) {
                    continue;
                }
                setTriangle(old, i, old, j, draft, j);
                if (holdsCorner(other, begin, i, end, j)) {
                    return true;
                }
                setTriangle(old, i, draft, i, draft, j);
                if (holdsCorner(other, begin, i, end, j)) {
                    return true;
                }
            }
            return false;
        }

        private void setTriangle(Row r, int a, Row s, int b, Row t, int c) {
            triangle.clear(true);
            triangle.put(r.x[a], r.y[a]);
            triangle.put(s.x[b], s.y[b]);
            triangle.put(t.x[c], t.y[c]);
        }

        /** Whether the triangle has a corner of the other that is neither of two spared ones (null: none). */
        private boolean holdsCorner(Row other, Row begin, int a, Row end, int c) {
            for (int i = 0; i < other.n; i++) {
                int px = other.x[i];
                int py = other.y[i];
                boolean spared = begin != null && begin.isCorner(a, px, py) || end != null && end.isCorner(c, px, py);
                if (!spared && triangle.where(px, py) != 0) {
                    return true;
                }
            }
            return false;
        }

        /** Whether no feature but two meets the draft, or begins inside it. */
        boolean isFreeFor(Sheet sheet, Feature f, Feature g) {
            for (int i = 0; i < sheet.total; i++) {
                Row other = sheet.rowThere(i);
                if (other == null || sheet.find(i) == f || sheet.find(i) == g) {
                    continue;
                }
                if (draft.touches(other) || isIn(draft, other)) {
                    return false;
                }
            }
            return true;
        }
    }

    /** The roads by weight, and which of their ends are joined. */
    static final class Roads {
        private final Feature[] roads = new Feature[MOST_FEATURES];
        private final int[] weights = new int[MOST_FEATURES];
        /** Two for each road: where it begins and ends, and the groups of places that these belong to. */
        private final int[] endX = new int[2 * MOST_FEATURES];
        private final int[] endY = new int[2 * MOST_FEATURES];
        private final int[] groups = new int[2 * MOST_FEATURES];
        private int n = 0;

        void gather(Sheet sheet) {
            n = 0;
            for (int i = 0; i < sheet.total; i++) {
                Feature f = sheet.find(i);
                Row row = sheet.rowThere(i);
                if (f != null && row != null && f.now.kind == ROAD) {
                    insert(f, (f.rank + 1) * row.length());
                }
            }
            for (int i = 0; i < n; i++) {
                Row row = roads[i] == null ? null : roads[i].now.row;
                if (row != null && row.n > 0) {
                    setEnd(2 * i, row.x[0], row.y[0]);
                    setEnd(2 * i + 1, row.x[row.n - 1], row.y[row.n - 1]);
                }
            }
        }

        /** Behind all that weigh no more, since those have lower numbers. */
        private void insert(Feature road, int weight) {
            if (n >= roads.length) {
                return;
            }
            int place = n;
            for (int i = n - 1; i >= 0 && weights[i] > weight; i--) {
                roads[i + 1] = roads[i];
                weights[i + 1] = weights[i];
                place = i;
            }
            roads[place] = road;
            weights[place] = weight;
            n++;
        }

        /** A place's group is the first end that lies there. */
        private void setEnd(int end, int px, int py) {
            endX[end] = px;
            endY[end] = py;
            int group = 0;
            while (group < end && (endX[group] != px || endY[group] != py)) {
                group++;
            }
            groups[end] = group;
        }

        /** How many roads go, since those before them join their ends already. */
        int leaveOut(int stepNumber) {
            int went = 0;
            for (int i = 0; i < n; i++) {
                int begin = groups[2 * i];
                int end = groups[2 * i + 1];
                if (begin != end) {
                    uniteGroups(begin, end);
                } else if (roads[i] != null) {
                    roads[i].leave(stepNumber);
                    went++;
                }
            }
            return went;
        }

        private void uniteGroups(int group, int other) {
            for (int i = 0; i < 2 * n; i++) {
                if (groups[i] == other) {
                    groups[i] = group;
                }
            }
        }
    }
}
