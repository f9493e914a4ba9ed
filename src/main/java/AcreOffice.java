/**
 * An acre office with chains and links: a traverse is measured leg by leg, adjusted by shares of
 * its closing error and kept as a field, of which areas, turns, sides and sheets are told.
 */
public final class AcreOffice {
    public static final int NONE = -1;

    private static final int MOST_PART = 9999;
    private static final int MOST_LENGTH = 20000;
    private static final int MOST_ORIGIN = 50000;
    private static final int MOST_POINT = 200000;

    private static final int LEAST_LEGS_OF_FIELD = 3;
    private static final int MOST_LEGS = 12;
    private static final int MOST_FIELDS = 6;
    private static final int MOST_SIGNS = 80;
    private static final int MOST_RECORDED = 4;

    private static final int CLOSENESS = 200;

    private static final long LINKS_OF_ACRE = 100000L;
    private static final long LINKS_OF_ROOD = 25000L;
    private static final long LINKS_OF_PERCH = 625L;

    private static final int INCHES_OF_SHEET = 20;
    private static final int LEAST_SCALE = 10;
    private static final int MOST_SCALE = 1000;

    private final State now;
    private final State trial;
    private final State snapshot;
    private final History history;
    private final Orders orders;
    private boolean snapshotTaken;

    public AcreOffice() {
        now = new State();
        trial = new State();
        snapshot = new State();
        history = new History();
        orders = new Orders();
        snapshotTaken = false;
    }

    // ---- actions

    public int addLeg(int east, int north, int length)
            throws IllegalArgumentException, IllegalStateException {
        if (!isWithin(east, MOST_PART) || !isWithin(north, MOST_PART)) {
            throw new IllegalArgumentException("a part of the leg is out of range");
        }
        if (length < 1 || length > MOST_LENGTH) {
            throw new IllegalArgumentException("the measured length is out of range");
        }
        beginTrial();
        if (!trial.traverse.append(east, north, length)) {
            throw new IllegalStateException("the traverse has no room for a leg");
        }
        settleTrial();
        return now.traverse.legCount;
    }

    public int takeBack() throws IllegalStateException {
        beginTrial();
        if (!trial.traverse.dropLast()) {
            throw new IllegalStateException("the traverse has no legs");
        }
        settleTrial();
        return now.traverse.legCount;
    }

    public int setOrigin(int east, int north) throws IllegalArgumentException {
        if (!isWithin(east, MOST_ORIGIN) || !isWithin(north, MOST_ORIGIN)) {
            throw new IllegalArgumentException("a part of the origin is out of range");
        }
        beginTrial();
        trial.traverse.moveOrigin(east, north);
        settleTrial();
        return now.traverse.legCount;
    }

    public int keep() throws IllegalStateException {
        beginTrial();
        if (!trial.keepTraverse()) {
            throw new IllegalStateException("the traverse cannot be kept");
        }
        settleTrial();
        return now.fieldCount - 1;
    }

    public int giveUp(int field) throws IndexOutOfBoundsException {
        beginTrial();
        if (!trial.dropField(field)) {
            throw new IndexOutOfBoundsException("no such field");
        }
        settleTrial();
        return now.fieldCount;
    }

    // ---- order texts

    public int type(char character) throws IllegalStateException {
        if (!orders.append(character)) {
            throw new IllegalStateException("the order text is full");
        }
        return orders.signCount;
    }

    public int clearText() {
        return orders.dropText();
    }

    public int textError() {
        return orders.firstError();
    }

    public int impossibleOrder() throws IllegalStateException {
        if (orders.firstError() != NONE) {
            throw new IllegalStateException("the order text is not valid");
        }
        beginTrial();
        return orders.firstFailureOn(trial);
    }

    public int carryOut() throws IllegalStateException {
        if (orders.firstError() != NONE) {
            throw new IllegalStateException("the order text is not valid");
        }
        beginTrial();
        if (orders.firstFailureOn(trial) != NONE) {
            throw new IllegalStateException("an order cannot be carried out");
        }
        settleTrial();
        return orders.orderCount;
    }

    // ---- undo, snapshot

    public int undo() throws IllegalStateException {
        if (!history.giveBack(now)) {
            throw new IllegalStateException("no state is recorded");
        }
        return history.count;
    }

    public int takeSnapshot() {
        snapshot.copyFrom(now);
        snapshotTaken = true;
        return now.fieldCount;
    }

    public int restoreSnapshot() throws IllegalStateException {
        if (!snapshotTaken) {
            throw new IllegalStateException("there is no snapshot");
        }
        trial.copyFrom(snapshot);
        settleTrial();
        return now.fieldCount;
    }

    // ---- the traverse

    public int legs() {
        return now.traverse.legCount;
    }

    public int traverseLength() {
        return now.traverse.measuredLength();
    }

    public int errorEast() {
        return now.traverse.closingEast();
    }

    public int errorNorth() {
        return now.traverse.closingNorth();
    }

    public boolean isClose() {
        return now.traverse.closesWell();
    }

    public int adjustedEast(int corner) throws IndexOutOfBoundsException {
        if (!now.traverse.hasCorner(corner)) {
            throw new IndexOutOfBoundsException("no such corner of the traverse");
        }
        return now.traverse.adjustedEastAt(corner);
    }

    public int adjustedNorth(int corner) throws IndexOutOfBoundsException {
        if (!now.traverse.hasCorner(corner)) {
            throw new IndexOutOfBoundsException("no such corner of the traverse");
        }
        return now.traverse.adjustedNorthAt(corner);
    }

    // ---- fields

    public int fields() {
        return now.fieldCount;
    }

    public int cornersOf(int field) throws IndexOutOfBoundsException {
        return knownField(field).cornerCount;
    }

    public int cornerEast(int field, int corner) throws IndexOutOfBoundsException {
        return fieldWithCorner(field, corner).eastAt(corner);
    }

    public int cornerNorth(int field, int corner) throws IndexOutOfBoundsException {
        return fieldWithCorner(field, corner).northAt(corner);
    }

    public int leftTurns(int field) throws IndexOutOfBoundsException {
        return knownField(field).turnsToTheLeft();
    }

    public boolean turnsOneWay(int field) throws IndexOutOfBoundsException {
        Field known = knownField(field);
        return known.turnsToTheLeft() == 0 || known.turnsToTheRight() == 0;
    }

    public int sidesEastOf(int field, int east, int north)
            throws IndexOutOfBoundsException, IllegalArgumentException {
        Field known = knownField(field);
        if (!isWithin(east, MOST_POINT) || !isWithin(north, MOST_POINT)) {
            throw new IllegalArgumentException("a part of the point is out of range");
        }
        return known.sidesMetFrom(east, north);
    }

    public int sharedSides(int field, int other) throws IndexOutOfBoundsException {
        Field first = knownField(field);
        Field second = knownField(other);
        return first.sidesAlsoOf(second);
    }

    // ---- areas

    public long twiceAreaByCorners(int field) throws IndexOutOfBoundsException {
        return knownField(field).twiceByCorners();
    }

    public long twiceAreaByStrips(int field) throws IndexOutOfBoundsException {
        return knownField(field).twiceByStrips();
    }

    public int acresOf(int field) throws IndexOutOfBoundsException {
        return (int) (knownField(field).area() / LINKS_OF_ACRE);
    }

    public int roodsOf(int field) throws IndexOutOfBoundsException {
        return (int) (knownField(field).area() % LINKS_OF_ACRE / LINKS_OF_ROOD);
    }

    public int perchesOf(int field) throws IndexOutOfBoundsException {
        return (int) (knownField(field).area() % LINKS_OF_ROOD / LINKS_OF_PERCH);
    }

    public int largestField() {
        return now.fieldOfGreatestArea();
    }

    public long twiceAreaOfAll() {
        return now.sumOfTwiceAreas();
    }

    // ---- sheets

    public int sheetsFor(int field, int links)
            throws IndexOutOfBoundsException, IllegalArgumentException {
        Field known = knownField(field);
        if (links < LEAST_SCALE || links > MOST_SCALE) {
            throw new IllegalArgumentException("the links to an inch are out of range");
        }
        int ofSheet = INCHES_OF_SHEET * links;
        return piecesNeeded(known.extentEast(), ofSheet) * piecesNeeded(known.extentNorth(), ofSheet);
    }

    public int scaleFor(int field) throws IndexOutOfBoundsException {
        Field known = knownField(field);
        int extent = Math.max(known.extentEast(), known.extentNorth());
        int links = Math.max(LEAST_SCALE, piecesNeeded(extent, INCHES_OF_SHEET));
        return links <= MOST_SCALE ? links : NONE;
    }

    public int recordedStates() {
        return history.count;
    }

    // ---- what the calls above share

    /** Each action is tried on a copy first, so that a call that throws changes nothing. */
    private void beginTrial() {
        trial.copyFrom(now);
    }

    private void settleTrial() {
        history.remember(now);
        now.copyFrom(trial);
    }

    private Field knownField(int field) throws IndexOutOfBoundsException {
        if (!now.hasField(field)) {
            throw new IndexOutOfBoundsException("no such field");
        }
        return now.kept[field];
    }

    private Field fieldWithCorner(int field, int corner) throws IndexOutOfBoundsException {
        Field known = knownField(field);
        if (!known.hasCorner(corner)) {
            throw new IndexOutOfBoundsException("no such corner of the field");
        }
        return known;
    }

    private static boolean isWithin(int value, int most) {
        return value >= -most && value <= most;
    }

    private static int cellOf(int[] row, int index) {
        return index >= 0 && index < row.length ? row[index] : 0;
    }

    /** How many pieces of the size (1 or more) the extent needs, at least one. */
    private static int piecesNeeded(int extent, int size) {
        if (extent <= 0 || size <= 0) {
            return 1;
        }
        return (extent - 1) / size + 1;
    }

    /**
     * The origin and the legs that are measured so far. The rows hold, for each corner, the sums
     * over the legs before it; so their first places stay 0, and a dropped leg leaves no trace.
     */
    private static final class Traverse {
        private final int[] eastBefore = new int[MOST_LEGS + 1];
        private final int[] northBefore = new int[MOST_LEGS + 1];
        private final int[] lengthBefore = new int[MOST_LEGS + 1];
        private int originEast;
        private int originNorth;
        private int legCount;

        void copyFrom(Traverse other) {
            System.arraycopy(other.eastBefore, 0, eastBefore, 0, MOST_LEGS + 1);
            System.arraycopy(other.northBefore, 0, northBefore, 0, MOST_LEGS + 1);
            System.arraycopy(other.lengthBefore, 0, lengthBefore, 0, MOST_LEGS + 1);
            originEast = other.originEast;
            originNorth = other.originNorth;
            legCount = other.legCount;
        }

        boolean append(int east, int north, int length) {
            if (legCount < 0 || legCount >= MOST_LEGS) {
                return false;
            }
            eastBefore[legCount + 1] = eastBefore[legCount] + east;
            northBefore[legCount + 1] = northBefore[legCount] + north;
            lengthBefore[legCount + 1] = lengthBefore[legCount] + length;
            legCount++;
            return true;
        }

        boolean dropLast() {
            if (legCount <= 0) {
                return false;
            }
            legCount--;
            return true;
        }

        void dropAllLegs() {
            legCount = 0;
        }

        void moveOrigin(int east, int north) {
            originEast = east;
            originNorth = north;
        }

        boolean hasCorner(int corner) {
            return corner >= 0 && corner <= legCount;
        }

        int measuredLength() {
            return cellOf(lengthBefore, legCount);
        }

        int closingEast() {
            return cellOf(eastBefore, legCount);
        }

        int closingNorth() {
            return cellOf(northBefore, legCount);
        }

        boolean closesWell() {
            int error = Math.abs(closingEast()) + Math.abs(closingNorth());
            return CLOSENESS * error <= measuredLength();
        }

        int adjustedEastAt(int corner) {
            return originEast + cellOf(eastBefore, corner) - shareOf(closingEast(), corner);
        }

        int adjustedNorthAt(int corner) {
            return originNorth + cellOf(northBefore, corner) - shareOf(closingNorth(), corner);
        }

        private int shareOf(int error, int corner) {
            long all = cellOf(lengthBefore, legCount);
            if (all <= 0L) {
                return 0;
            }
            // error times length is beyond an int for a traverse that is far from close
            long product = (long) error * cellOf(lengthBefore, corner);
            return (int) Math.floorDiv(product, all);
        }
    }

    /** The corners of a field; sides go from each to the next, and from the last to the first. */
    private static final class Field {
        private final int[] easts = new int[MOST_LEGS];
        private final int[] norths = new int[MOST_LEGS];
        private int cornerCount;

        void copyFrom(Field other) {
            System.arraycopy(other.easts, 0, easts, 0, MOST_LEGS);
            System.arraycopy(other.norths, 0, norths, 0, MOST_LEGS);
            cornerCount = other.cornerCount;
        }

        void dropCorners() {
            cornerCount = 0;
        }

        void appendCorner(int east, int north) {
            if (cornerCount < 0 || cornerCount >= MOST_LEGS) {
                return;
            }
            easts[cornerCount] = east;
            norths[cornerCount] = north;
            cornerCount++;
        }

        boolean hasCorner(int corner) {
            return corner >= 0 && corner < cornerCount;
        }

        int eastAt(int corner) {
            return cellOf(easts, corner);
        }

        int northAt(int corner) {
            return cellOf(norths, corner);
        }

        private int cornerAfter(int corner) {
            return corner + 1 < cornerCount ? corner + 1 : 0;
        }

        private int cornerBefore(int corner) {
            return corner > 0 ? corner - 1 : cornerCount - 1;
        }

        private long sideEast(int corner) {
            return (long) eastAt(cornerAfter(corner)) - eastAt(corner);
        }

        private long sideNorth(int corner) {
            return (long) northAt(cornerAfter(corner)) - northAt(corner);
        }

        /** Above 0 where the next side turns to the left, below 0 where it turns to the right. */
        private long turnAt(int corner) {
            int before = cornerBefore(corner);
            return sideEast(before) * sideNorth(corner) - sideNorth(before) * sideEast(corner);
        }

        int turnsToTheLeft() {
            int turns = 0;
            for (int i = 0; i < cornerCount; i++) {
                if (turnAt(i) > 0L) {
                    turns++;
                }
            }
            return turns;
        }

        int turnsToTheRight() {
            int turns = 0;
            for (int i = 0; i < cornerCount; i++) {
                if (turnAt(i) < 0L) {
                    turns++;
                }
            }
            return turns;
        }

        int sidesMetFrom(int east, int north) {
            int sides = 0;
            for (int i = 0; i < cornerCount; i++) {
                if (isMetFrom(east, north, i, cornerAfter(i))) {
                    sides++;
                }
            }
            return sides;
        }

        private boolean isMetFrom(int east, int north, int from, int to) {
            if ((northAt(from) > north) == (northAt(to) > north)) {
                return false;
            }
            int upper = northAt(from) > north ? from : to;
            int lower = upper == from ? to : from;
            long rise = (long) northAt(upper) - northAt(lower);
            long climbed = (long) north - northAt(lower);
            long run = (long) eastAt(upper) - eastAt(lower);
            long toLower = (long) eastAt(lower) - east;
            // multiplied by the rise, which is above 0, so that nothing is rounded
            return toLower * rise + run * climbed > 0L;
        }

        int sidesAlsoOf(Field other) {
            int sides = 0;
            for (int i = 0; i < cornerCount; i++) {
                if (other.hasSide(this, i, cornerAfter(i))) {
                    sides++;
                }
            }
            return sides;
        }

        private boolean hasSide(Field other, int from, int to) {
            for (int i = 0; i < cornerCount; i++) {
                int next = cornerAfter(i);
                if (isSamePoint(i, other, from) && isSamePoint(next, other, to)) {
                    return true;
                }
                if (isSamePoint(i, other, to) && isSamePoint(next, other, from)) {
                    return true;
                }
            }
            return false;
        }

        private boolean isSamePoint(int corner, Field other, int othersCorner) {
            return eastAt(corner) == other.eastAt(othersCorner)
                    && northAt(corner) == other.northAt(othersCorner);
        }

        long twiceByCorners() {
            long sum = 0L;
            for (int i = 0; i < cornerCount; i++) {
                int next = cornerAfter(i);
                sum += (long) eastAt(i) * northAt(next) - (long) northAt(i) * eastAt(next);
            }
            return Math.abs(sum);
        }

        long twiceByStrips() {
            long sum = 0L;
            for (int i = 0; i < cornerCount; i++) {
                long heights = (long) northAt(i) + northAt(cornerAfter(i));
                sum += sideEast(i) * heights;
            }
            return Math.abs(sum);
        }

        long area() {
            return twiceByCorners() / 2L;
        }

        int extentEast() {
            return extentOf(easts);
        }

        int extentNorth() {
            return extentOf(norths);
        }

        private int extentOf(int[] parts) {
            int least = cellOf(parts, 0);
            int most = least;
            for (int i = 1; i < cornerCount && i < parts.length; i++) {
                least = Math.min(least, parts[i]);
                most = Math.max(most, parts[i]);
            }
            return most - least;
        }
    }

    /** All that undo and the snapshot bring back: the traverse and the fields. */
    private static final class State {
        private final Traverse traverse;
        private final Field[] kept;
        private int fieldCount;

        State() {
            traverse = new Traverse();
            kept = new Field[MOST_FIELDS];
            for (int i = 0; i < MOST_FIELDS; i++) {
                kept[i] = new Field();
            }
            fieldCount = 0;
        }

        void copyFrom(State other) {
            traverse.copyFrom(other.traverse);
            for (int i = 0; i < other.fieldCount && i < MOST_FIELDS; i++) {
                kept[i].copyFrom(other.kept[i]);
            }
            fieldCount = other.fieldCount;
        }

        boolean hasField(int field) {
            return field >= 0 && field < fieldCount && field < MOST_FIELDS;
        }

        boolean keepTraverse() {
            if (traverse.legCount < LEAST_LEGS_OF_FIELD || !traverse.closesWell()) {
                return false;
            }
            if (fieldCount < 0 || fieldCount >= MOST_FIELDS) {
                return false;
            }
            // the place behind the kept fields belongs to no field until it is counted
            Field next = kept[fieldCount];
            next.dropCorners();
            for (int i = 0; i < traverse.legCount && i < MOST_LEGS; i++) {
                next.appendCorner(traverse.adjustedEastAt(i), traverse.adjustedNorthAt(i));
            }
            if (next.twiceByCorners() == 0L) {
                return false;
            }
            fieldCount++;
            traverse.dropAllLegs();
            return true;
        }

        boolean dropField(int field) {
            if (!hasField(field)) {
                return false;
            }
            for (int i = field + 1; i < fieldCount && i < MOST_FIELDS; i++) {
                kept[i - 1].copyFrom(kept[i]);
            }
            fieldCount--;
            return true;
        }

        int fieldOfGreatestArea() {
            int best = NONE;
            long greatest = -1L;
            for (int i = 0; i < fieldCount && i < MOST_FIELDS; i++) {
                long area = kept[i].area();
                if (area > greatest) {
                    greatest = area;
                    best = i;
                }
            }
            return best;
        }

        long sumOfTwiceAreas() {
            long sum = 0L;
            for (int i = 0; i < fieldCount && i < MOST_FIELDS; i++) {
                sum += kept[i].twiceByCorners();
            }
            return sum;
        }
    }

    /** The latest recorded states; the oldest one makes room when all places are taken. */
    private static final class History {
        private final State[] states;
        private int next;
        private int count;

        History() {
            states = new State[MOST_RECORDED];
            for (int i = 0; i < MOST_RECORDED; i++) {
                states[i] = new State();
            }
            next = 0;
            count = 0;
        }

        void remember(State state) {
            if (next < 0 || next >= MOST_RECORDED) {
                return;
            }
            states[next].copyFrom(state);
            next = (next + 1) % MOST_RECORDED;
            count = Math.min(count + 1, MOST_RECORDED);
        }

        boolean giveBack(State into) {
            if (count <= 0 || next < 0) {
                return false;
            }
            next = (next + MOST_RECORDED - 1) % MOST_RECORDED;
            count--;
            into.copyFrom(states[next]);
            return true;
        }
    }

    /** The order text, read sign by sign, and the orders that the last reading found. */
    private static final class Orders {
        private static final int LEG = 0;
        private static final int BACK = 1;
        private static final int KEPT = 2;
        private static final int GIVEN_UP = 3;

        // what the reading expects at the next sign
        private static final int ORDER = 0;
        private static final int ORDER_END = 1;
        private static final int FIELD_NUMBER = 2;
        private static final int EAST_START = 3;
        private static final int EAST_REST = 4;
        private static final int NORTH_START = 5;
        private static final int NORTH_REST = 6;
        private static final int LENGTH_START = 7;
        private static final int LENGTH_REST = 8;

        // kept as chars, not as a text: any character may be typed
        private final char[] signs = new char[MOST_SIGNS];
        private int signCount;

        // every order has a sign of its own, so as many places as signs are enough
        private final int[] kinds = new int[MOST_SIGNS];
        private final int[] easts = new int[MOST_SIGNS];
        private final int[] norths = new int[MOST_SIGNS];
        private final int[] lengths = new int[MOST_SIGNS];
        private final int[] fieldNumbers = new int[MOST_SIGNS];
        private int orderCount;

        private int expected;
        private int direction;
        private int number;

        boolean append(char sign) {
            if (signCount < 0 || signCount >= MOST_SIGNS) {
                return false;
            }
            signs[signCount] = sign;
            signCount++;
            return true;
        }

        int dropText() {
            int had = signCount;
            signCount = 0;
            return had;
        }

        int firstError() {
            expected = ORDER;
            orderCount = 0;
            for (int i = 0; i < signCount && i < MOST_SIGNS; i++) {
                if (!accepts(signs[i])) {
                    return i;
                }
            }
            return expected == ORDER_END || expected == LENGTH_REST ? NONE : signCount;
        }

        private boolean accepts(char sign) {
            switch (expected) {
                case ORDER:
                    return beginOrder(sign);
                case ORDER_END:
                    return endOrder(sign);
                case FIELD_NUMBER:
                    return readField(sign);
                case EAST_START:
                    return beginNumber(sign, '0', EAST_REST);
                case EAST_REST:
                    return growNumber(sign, MOST_PART) || endEast(sign);
                case NORTH_START:
                    return beginNumber(sign, '0', NORTH_REST);
                case NORTH_REST:
                    return growNumber(sign, MOST_PART) || endNorth(sign);
                case LENGTH_START:
                    return beginNumber(sign, '1', LENGTH_REST) && noteLength();
                case LENGTH_REST:
                    return growNumber(sign, MOST_LENGTH) && noteLength() || endOrder(sign);
                default:
                    return false;
            }
        }

        private boolean beginOrder(char sign) {
            if (sign == 'e' || sign == 'w') {
                direction = sign == 'e' ? 1 : -1;
                return noteKind(LEG, EAST_START);
            }
            if (sign == 'b') {
                return noteKind(BACK, ORDER_END);
            }
            if (sign == 'k') {
                return noteKind(KEPT, ORDER_END);
            }
            return sign == 'g' && noteKind(GIVEN_UP, FIELD_NUMBER);
        }

        private boolean noteKind(int kind, int next) {
            if (orderCount < 0 || orderCount >= MOST_SIGNS) {
                return false;
            }
            kinds[orderCount] = kind;
            orderCount++;
            expected = next;
            return true;
        }

        private boolean endOrder(char sign) {
            if (sign != ';') {
                return false;
            }
            expected = ORDER;
            return true;
        }

        private boolean readField(char sign) {
            if (sign < '0' || sign > '5') {
                return false;
            }
            note(fieldNumbers, sign - '0');
            expected = ORDER_END;
            return true;
        }

        private boolean beginNumber(char sign, char least, int rest) {
            if (sign < least || sign > '9') {
                return false;
            }
            number = sign - '0';
            expected = rest;
            return true;
        }

        private boolean growNumber(char sign, int most) {
            // nothing follows a first 0: there are no leading zeros
            if (sign < '0' || sign > '9' || number == 0) {
                return false;
            }
            int grown = number * 10 + (sign - '0');
            if (grown > most) {
                return false;
            }
            number = grown;
            return true;
        }

        private boolean endEast(char sign) {
            if (sign != 'n' && sign != 's') {
                return false;
            }
            note(easts, direction * number);
            direction = sign == 'n' ? 1 : -1;
            expected = NORTH_START;
            return true;
        }

        private boolean endNorth(char sign) {
            if (sign != 'l') {
                return false;
            }
            note(norths, direction * number);
            expected = LENGTH_START;
            return true;
        }

        /** A length is noted with each digit, since the text may end behind any of them. */
        private boolean noteLength() {
            note(lengths, number);
            return true;
        }

        private void note(int[] row, int value) {
            int last = orderCount - 1;
            if (last >= 0 && last < row.length) {
                row[last] = value;
            }
        }

        /** Carries the orders of a valid text out until one fails: its number, or NONE. */
        int firstFailureOn(State state) {
            for (int i = 0; i < orderCount && i < MOST_SIGNS; i++) {
                if (!isCarriedOut(i, state)) {
                    return i;
                }
            }
            return NONE;
        }

        private boolean isCarriedOut(int order, State state) {
            if (order < 0 || order >= MOST_SIGNS) {
                return false;
            }
            switch (kinds[order]) {
                case LEG:
                    return state.traverse.append(easts[order], norths[order], lengths[order]);
                case BACK:
                    return state.traverse.dropLast();
                case KEPT:
                    return state.keepTraverse();
                case GIVEN_UP:
                    return state.dropField(fieldNumbers[order]);
                default:
                    return false;
            }
        }
    }
}
