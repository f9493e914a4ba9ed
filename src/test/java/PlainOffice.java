import java.math.BigDecimal;
import java.math.BigInteger;
import java.math.RoundingMode;
import java.util.ArrayDeque;
import java.util.ArrayList;
import java.util.Deque;
import java.util.HashSet;
import java.util.List;
import java.util.Set;
import java.util.regex.Matcher;
import java.util.regex.Pattern;

/**
 * A second office, written from the document with lists, big numbers and patterns, for comparing.
 * It shares no line with AcreOffice, so that a slip in one is seen by the other.
 */
public final class PlainOffice {
    private static final String PART = "(0|[1-9][0-9]{0,3})";
    private static final String LENGTH = "([1-9][0-9]{0,3}|1[0-9]{4}|20000)";
    private static final Pattern LEG = Pattern.compile("([ew])" + PART + "([ns])" + PART + "l" + LENGTH);
    private static final String ORDER = "([ew]" + PART + "[ns]" + PART + "l" + LENGTH + "|b|k|g[0-5])";
    private static final Pattern TEXT = Pattern.compile(ORDER + "(;" + ORDER + ")*", Pattern.DOTALL);

    /** Whatever the beginning of a valid text is, one of these makes it a valid one. */
    private static final String[] ENDS = {"", "b", "0", "0n0l1", "n0l1", "0l1", "l1", "1"};

    private record Point(BigInteger east, BigInteger north) {
        Point minus(Point p) {
            return new Point(east.subtract(p.east), north.subtract(p.north));
        }

        BigInteger dot(Point p) {
            return east.multiply(p.east).add(north.multiply(p.north));
        }

        BigInteger cross(Point p) {
            return east.multiply(p.north).subtract(north.multiply(p.east));
        }
    }

    private record Leg(int east, int north, int length) {
    }

    private record State(int east, int north, List<Leg> legs, List<List<Point>> fields) {
        State copy() {
            return new State(east, north, new ArrayList<>(legs), new ArrayList<>(fields));
        }
    }

    private State state = new State(0, 0, new ArrayList<>(), new ArrayList<>());
    private State snapshot = null;
    private final Deque<State> recorded = new ArrayDeque<>();
    private String text = "";

    private void record() {
        recorded.addLast(state.copy());
        if (recorded.size() > 4) {
            recorded.removeFirst();
        }
    }

    public int addLeg(int east, int north, int length) {
        if (Math.abs((long) east) > 9999 || Math.abs((long) north) > 9999 || length < 1 || length > 20000) {
            throw new IllegalArgumentException();
        }
        if (state.legs.size() == 12) {
            throw new IllegalStateException();
        }
        record();
        state.legs.add(new Leg(east, north, length));
        return state.legs.size();
    }

    public int takeBack() {
        if (state.legs.isEmpty()) {
            throw new IllegalStateException();
        }
        record();
        state.legs.remove(state.legs.size() - 1);
        return state.legs.size();
    }

    public int setOrigin(int east, int north) {
        if (Math.abs((long) east) > 50000 || Math.abs((long) north) > 50000) {
            throw new IllegalArgumentException();
        }
        record();
        state = new State(east, north, state.legs, state.fields);
        return state.legs.size();
    }

    private static List<Point> adjustedCorners(State s) {
        BigInteger all = BigInteger.valueOf(lengthOf(s));
        Point error = new Point(BigInteger.valueOf(eastOf(s)), BigInteger.valueOf(northOf(s)));
        List<Point> corners = new ArrayList<>();
        int east = s.east;
        int north = s.north;
        int before = 0;
        for (int k = 0; k <= s.legs.size(); k++) {
            Point raw = new Point(BigInteger.valueOf(east), BigInteger.valueOf(north));
            BigInteger done = BigInteger.valueOf(before);
            corners.add(k == 0 ? raw : raw.minus(
                new Point(floor(error.east.multiply(done), all), floor(error.north.multiply(done), all))));
            if (k < s.legs.size()) {
                east += s.legs.get(k).east;
                north += s.legs.get(k).north;
                before += s.legs.get(k).length;
            }
        }
        return corners;
    }

    private static BigInteger floor(BigInteger above, BigInteger below) {
        return new BigDecimal(above).divide(new BigDecimal(below), 0, RoundingMode.FLOOR).toBigInteger();
    }

    private static int lengthOf(State s) {
        return s.legs.stream().mapToInt(Leg::length).sum();
    }

    private static int eastOf(State s) {
        return s.legs.stream().mapToInt(Leg::east).sum();
    }

    private static int northOf(State s) {
        return s.legs.stream().mapToInt(Leg::north).sum();
    }

    private static boolean closeOf(State s) {
        return 200L * (Math.abs(eastOf(s)) + Math.abs(northOf(s))) <= lengthOf(s);
    }

    private static BigInteger twiceOf(List<Point> corners) {
        BigInteger sum = BigInteger.ZERO;
        for (int i = 0; i < corners.size(); i++) {
            sum = sum.add(corners.get(i).cross(corners.get((i + 1) % corners.size())));
        }
        return sum.abs();
    }

    /** The state after the order, or null if it can't be carried out. */
    private static State after(State before, String order) {
        State s = before.copy();
        if (order.equals("b")) {
            if (s.legs.isEmpty()) {
                return null;
            }
            s.legs.remove(s.legs.size() - 1);
            return s;
        }
        if (order.equals("k")) {
            List<Point> corners = adjustedCorners(s);
            corners.remove(corners.size() - 1);
            if (s.legs.size() < 3 || !closeOf(s) || s.fields.size() == 6 || twiceOf(corners).signum() == 0) {
                return null;
            }
            s.fields.add(corners);
            s.legs.clear();
            return s;
        }
        if (order.startsWith("g")) {
            int field = Integer.parseInt(order.substring(1));
            if (field >= s.fields.size()) {
                return null;
            }
            s.fields.remove(field);
            return s;
        }
        Matcher m = LEG.matcher(order);
        if (!m.matches() || s.legs.size() == 12) {
            return null;
        }
        int east = Integer.parseInt(m.group(2)) * (m.group(1).equals("w") ? -1 : 1);
        int north = Integer.parseInt(m.group(4)) * (m.group(3).equals("s") ? -1 : 1);
        s.legs.add(new Leg(east, north, Integer.parseInt(m.group(5))));
        return s;
    }

    public int keep() {
        State next = after(state, "k");
        if (next == null) {
            throw new IllegalStateException();
        }
        record();
        state = next;
        return state.fields.size() - 1;
    }

    public int giveUp(int field) {
        fieldAt(field);
        record();
        state.fields.remove(field);
        return state.fields.size();
    }

    public int type(char character) {
        if (text.length() >= 80) {
            throw new IllegalStateException();
        }
        text += character;
        return text.length();
    }

    public int clearText() {
        int had = text.length();
        text = "";
        return had;
    }

    private static boolean begins(String start) {
        for (String end : ENDS) {
            if (TEXT.matcher(start + end).matches()) {
                return true;
            }
        }
        return false;
    }

    public int textError() {
        for (int i = 0; i < text.length(); i++) {
            if (!begins(text.substring(0, i + 1))) {
                return i;
            }
        }
        return TEXT.matcher(text).matches() ? -1 : text.length();
    }

    public int impossibleOrder() {
        if (textError() != -1) {
            throw new IllegalStateException();
        }
        State s = state;
        String[] orders = text.split(";");
        for (int i = 0; i < orders.length; i++) {
            s = after(s, orders[i]);
            if (s == null) {
                return i;
            }
        }
        return -1;
    }

    public int carryOut() {
        if (impossibleOrder() != -1) {
            throw new IllegalStateException();
        }
        record();
        String[] orders = text.split(";");
        for (String order : orders) {
            state = after(state, order);
        }
        return orders.length;
    }

    public int undo() {
        if (recorded.isEmpty()) {
            throw new IllegalStateException();
        }
        state = recorded.removeLast();
        return recorded.size();
    }

    public int takeSnapshot() {
        snapshot = state.copy();
        return state.fields.size();
    }

    public int restoreSnapshot() {
        if (snapshot == null) {
            throw new IllegalStateException();
        }
        record();
        state = snapshot.copy();
        return state.fields.size();
    }

    public int legs() {
        return state.legs.size();
    }

    public int traverseLength() {
        return lengthOf(state);
    }

    public int errorEast() {
        return eastOf(state);
    }

    public int errorNorth() {
        return northOf(state);
    }

    public boolean isClose() {
        return closeOf(state);
    }

    private Point adjusted(int corner) {
        if (corner < 0 || corner > state.legs.size()) {
            throw new IndexOutOfBoundsException();
        }
        return adjustedCorners(state).get(corner);
    }

    public int adjustedEast(int corner) {
        return adjusted(corner).east.intValueExact();
    }

    public int adjustedNorth(int corner) {
        return adjusted(corner).north.intValueExact();
    }

    public int fields() {
        return state.fields.size();
    }

    private List<Point> fieldAt(int field) {
        if (field < 0 || field >= state.fields.size()) {
            throw new IndexOutOfBoundsException();
        }
        return state.fields.get(field);
    }

    private Point cornerAt(int field, int corner) {
        List<Point> corners = fieldAt(field);
        if (corner < 0 || corner >= corners.size()) {
            throw new IndexOutOfBoundsException();
        }
        return corners.get(corner);
    }

    public int cornersOf(int field) {
        return fieldAt(field).size();
    }

    public int cornerEast(int field, int corner) {
        return cornerAt(field, corner).east.intValueExact();
    }

    public int cornerNorth(int field, int corner) {
        return cornerAt(field, corner).north.intValueExact();
    }

    private int turns(int field, int way) {
        List<Point> corners = fieldAt(field);
        int n = corners.size();
        int turns = 0;
        for (int i = 0; i < n; i++) {
            Point before = corners.get((i + n - 1) % n);
            Point here = corners.get(i);
            Point next = corners.get((i + 1) % n);
            if (here.minus(before).cross(next.minus(here)).signum() == way) {
                turns++;
            }
        }
        return turns;
    }

    /** The document says nothing of turns next to a side of no length, or straight back. */
    boolean saysTurnsOf(int field) {
        if (field < 0 || field >= state.fields.size()) {
            return true;
        }
        List<Point> corners = state.fields.get(field);
        int n = corners.size();
        for (int i = 0; i < n; i++) {
            Point side = corners.get((i + 1) % n).minus(corners.get(i));
            Point next = corners.get((i + 2) % n).minus(corners.get((i + 1) % n));
            if (side.cross(next).signum() == 0 && side.dot(next).signum() <= 0) {
                return false;
            }
        }
        return true;
    }

    public int leftTurns(int field) {
        return turns(field, 1);
    }

    public boolean turnsOneWay(int field) {
        return !(turns(field, 1) > 0 && turns(field, -1) > 0);
    }

    public int sidesEastOf(int field, int east, int north) {
        List<Point> corners = fieldAt(field);
        if (Math.abs((long) east) > 200000 || Math.abs((long) north) > 200000) {
            throw new IllegalArgumentException();
        }
        BigInteger e = BigInteger.valueOf(east);
        BigInteger n = BigInteger.valueOf(north);
        int sides = 0;
        for (int i = 0; i < corners.size(); i++) {
            Point a = corners.get(i);
            Point b = corners.get((i + 1) % corners.size());
            boolean aNorth = a.north.compareTo(n) > 0;
            boolean bNorth = b.north.compareTo(n) > 0;
            if (aNorth == bNorth) {
                continue;
            }
            // where the side stands at the height, as a fraction over b.north - a.north
            BigInteger below = b.north.subtract(a.north);
            BigInteger above = a.east.multiply(below)
                .add(n.subtract(a.north).multiply(b.east.subtract(a.east)));
            BigInteger ahead = above.subtract(e.multiply(below));
            if (ahead.signum() * below.signum() > 0) {
                sides++;
            }
        }
        return sides;
    }

    private static List<Set<Point>> sidesOf(List<Point> corners) {
        List<Set<Point>> sides = new ArrayList<>();
        for (int i = 0; i < corners.size(); i++) {
            Set<Point> side = new HashSet<>();
            side.add(corners.get(i));
            side.add(corners.get((i + 1) % corners.size()));
            sides.add(side);
        }
        return sides;
    }

    public int sharedSides(int field, int other) {
        List<Set<Point>> first = sidesOf(fieldAt(field));
        List<Set<Point>> second = sidesOf(fieldAt(other));
        int shared = 0;
        for (Set<Point> side : first) {
            shared += second.contains(side) ? 1 : 0;
        }
        return shared;
    }

    public long twiceAreaByCorners(int field) {
        return twiceOf(fieldAt(field)).longValueExact();
    }

    public long twiceAreaByStrips(int field) {
        return twiceAreaByCorners(field);
    }

    private BigInteger areaOf(int field) {
        return twiceOf(fieldAt(field)).divide(BigInteger.TWO);
    }

    /** Acres, roods, perches: each place takes what it can from what is left. */
    private int measure(int field, int place) {
        BigInteger left = areaOf(field);
        int[] sizes = {100000, 25000, 625};
        int found = 0;
        for (int i = 0; i <= place; i++) {
            BigInteger[] parts = left.divideAndRemainder(BigInteger.valueOf(sizes[i]));
            found = parts[0].intValueExact();
            left = parts[1];
        }
        return found;
    }

    public int acresOf(int field) {
        return measure(field, 0);
    }

    public int roodsOf(int field) {
        return measure(field, 1);
    }

    public int perchesOf(int field) {
        return measure(field, 2);
    }

    public int largestField() {
        int best = -1;
        for (int f = 0; f < state.fields.size(); f++) {
            if (best == -1 || areaOf(f).compareTo(areaOf(best)) > 0) {
                best = f;
            }
        }
        return best;
    }

    public long twiceAreaOfAll() {
        long sum = 0;
        for (int f = 0; f < state.fields.size(); f++) {
            sum += twiceAreaByCorners(f);
        }
        return sum;
    }

    private int[] extents(int field) {
        List<Point> corners = fieldAt(field);
        int[] east = corners.stream().mapToInt(p -> p.east.intValueExact()).sorted().toArray();
        int[] north = corners.stream().mapToInt(p -> p.north.intValueExact()).sorted().toArray();
        return new int[] {east[east.length - 1] - east[0], north[north.length - 1] - north[0]};
    }

    public int sheetsFor(int field, int links) {
        int[] extents = extents(field);
        if (links < 10 || links > 1000) {
            throw new IllegalArgumentException();
        }
        int[] needed = {1, 1};
        for (int i = 0; i < 2; i++) {
            while (needed[i] * 20 * links < extents[i]) {
                needed[i]++;
            }
        }
        return needed[0] * needed[1];
    }

    public int scaleFor(int field) {
        fieldAt(field);
        for (int links = 10; links <= 1000; links++) {
            if (sheetsFor(field, links) == 1) {
                return links;
            }
        }
        return -1;
    }

    public int recordedStates() {
        return recorded.size();
    }
}
