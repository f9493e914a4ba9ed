import java.lang.reflect.InvocationTargetException;
import java.lang.reflect.Method;
import java.util.Arrays;
import java.util.HashMap;
import java.util.Map;
import java.util.TreeMap;

/** Long runs of calls, the same ones each time, answered by AcreOffice and by PlainOffice. */
public final class ModelTest {
    private static final int RUNS = 1500;
    /** Nothing is promised of what an office answers to later calls. */
    private static final int CALLS = 512;

    private static final Map<String, Method> REAL = methodsOf(AcreOffice.class);
    private static final Map<String, Method> PLAIN = methodsOf(PlainOffice.class);

    /** How often a call answered, and how often it threw, over all runs. */
    private static final Map<String, int[]> SEEN = new TreeMap<>();

    private final AcreOffice real = new AcreOffice();
    private final PlainOffice plain = new PlainOffice();
    private final int run;
    private final StringBuilder story = new StringBuilder();
    private long seed;
    private int calls = 0;
    private boolean differed = false;

    private ModelTest(int run) {
        this.run = run;
        this.seed = 0x9E3779B97F4A7C15L * (run + 1);
    }

    public static void main(String[] args) {
        int wrong = 0;
        for (int run = 0; run < RUNS && wrong < 5; run++) {
            ModelTest test = new ModelTest(run);
            while (test.calls < CALLS && !test.differed) {
                test.step();
            }
            wrong += test.differed ? 1 : 0;
        }
        Check.number("runs that differ", wrong, 0);
        everyCallIsUsed();
        Check.finish("ModelTest");
    }

    private static void everyCallIsUsed() {
        for (String name : REAL.keySet()) {
            int[] counts = SEEN.getOrDefault(name, new int[2]);
            Check.holds(name + " answers often, not " + counts[0], counts[0] >= 200);
            boolean mayThrow = REAL.get(name).getExceptionTypes().length > 0;
            Check.same(name + " throws often just if it may throw", counts[1] >= 100, mayThrow);
        }
    }

    private static Map<String, Method> methodsOf(Class<?> type) {
        Map<String, Method> methods = new HashMap<>();
        for (Method method : type.getDeclaredMethods()) {
            if (java.lang.reflect.Modifier.isPublic(method.getModifiers())) {
                methods.put(method.getName(), method);
            }
        }
        return methods;
    }

    private int next(int bound) {
        seed = seed * 6364136223846793005L + 1442695040888963407L;
        return (int) ((seed >>> 33) % bound);
    }

    private int between(int least, int most) {
        return least + next(most - least + 1);
    }

    private boolean oneIn(int n) {
        return next(n) == 0;
    }

    private static String answer(Map<String, Method> methods, Object office, String name, Object... args) {
        try {
            return String.valueOf(methods.get(name).invoke(office, args));
        } catch (InvocationTargetException e) {
            return "throws " + e.getCause().getClass().getName();
        } catch (IllegalAccessException e) {
            return "no access";
        }
    }

    private void call(String name, Object... args) {
        if (calls >= CALLS) {
            return;
        }
        calls++;
        String got = answer(REAL, real, name, args);
        String due = answer(PLAIN, plain, name, args);
        story.append(name).append(Arrays.toString(args)).append(" = ").append(due).append('\n');
        int[] counts = SEEN.computeIfAbsent(name, k -> new int[2]);
        counts[got.startsWith("throws") ? 1 : 0]++;
        if (!got.equals(due) && !differed) {
            differed = true;
            System.out.println("run " + run + ":\n" + story + "but answered " + got);
        }
    }

    private void step() {
        switch (next(24)) {
            case 0, 1 -> anyAction();
            case 2, 3 -> polygon();
            case 4 -> call("keep");
            case 5 -> text();
            case 6, 7 -> back();
            case 8 -> aboutTraverse();
            case 9, 10 -> sharedPolygon();
            default -> aboutFields();
        }
    }

    private void anyAction() {
        switch (next(6)) {
            case 0 -> call("addLeg", part(9999), part(9999), oneIn(10) ? part(20001) : between(1, 20000));
            case 1 -> call("takeBack");
            case 2 -> call("setOrigin", part(50000), part(50000));
            case 3 -> call("giveUp", oneIn(3) ? field() : 5);
            case 4 -> call("addLeg", between(-9, 9), between(-9, 9), between(1, 99));
            default -> call("addLeg", 0, 0, between(1, 20000));
        }
    }

    /** Mostly within the range, now and then at its ends or beyond. */
    private int part(int most) {
        return switch (next(12)) {
            case 0 -> most;
            case 1 -> -most;
            case 2 -> oneIn(3) ? most + 1 : 0;
            case 3 -> oneIn(3) ? -most - 1 : 1;
            case 4 -> oneIn(6) ? Integer.MIN_VALUE : -1;
            case 5 -> oneIn(6) ? Integer.MAX_VALUE : 2;
            default -> between(-most, most);
        };
    }

    private int field() {
        return oneIn(12) ? between(-2, 7) : next(Math.max(1, plain.fields()));
    }

    private int corner(int field) {
        boolean known = field >= 0 && field < plain.fields();
        return oneIn(10) || !known ? between(-1, 13) : next(plain.cornersOf(field));
    }

    /** Legs that nearly come back to where they began. */
    private void polygon() {
        if (!oneIn(6)) {
            takeAllBack();
        }
        int size = new int[] {3, 50, 800, 9999}[next(4)];
        int count = oneIn(4) ? between(1, 13) : between(3, 7);
        int off = oneIn(5) ? size / 20 + 1 : 1;
        int east = 0;
        int north = 0;
        for (int k = 0; k < count; k++) {
            int legEast = k == count - 1 ? -east + between(-off, off) : between(-size, size);
            int legNorth = k == count - 1 ? -north + between(-off, off) : between(-size, size);
            legEast = Math.max(-9999, Math.min(9999, legEast));
            legNorth = Math.max(-9999, Math.min(9999, legNorth));
            east += legEast;
            north += legNorth;
            call("addLeg", legEast, legNorth, between(1, Math.max(60, Math.min(20000, 2 * size))));
        }
        if (!oneIn(5)) {
            call("keep");
        }
    }

    /** A small lattice of corners, so that fields have sides and lines in common. */
    private void sharedPolygon() {
        takeAllBack();
        int grid = oneIn(2) ? 10 : 100;
        int[] place = {between(0, 1) * grid, between(0, 1) * grid};
        call("setOrigin", place[0], place[1]);
        int[] first = place.clone();
        int count = between(3, 6);
        for (int k = 0; k < count; k++) {
            int[] to = k == count - 1 ? first : new int[] {between(0, 2) * grid, between(0, 2) * grid};
            call("addLeg", to[0] - place[0], to[1] - place[1], between(1, 300));
            place = to;
        }
        call("keep");
    }

    private void takeAllBack() {
        while (plain.legs() > 0 && calls < CALLS) {
            call("takeBack");
        }
    }

    private void text() {
        if (!oneIn(6)) {
            call("clearText");
        }
        int orders = oneIn(8) ? between(5, 30) : between(1, 4);
        StringBuilder text = new StringBuilder();
        for (int k = 0; k < orders; k++) {
            text.append(k == 0 ? "" : ";").append(order());
        }
        if (oneIn(3) && text.length() > 0) {
            spoil(text);
        }
        for (int i = 0; i < text.length(); i++) {
            call("type", text.charAt(i));
        }
        call("textError");
        call("impossibleOrder");
        call("carryOut");
    }

    private String order() {
        return switch (next(9)) {
            case 0 -> "b";
            case 1 -> "k";
            case 2 -> "g" + next(oneIn(2) ? 6 : 2);
            case 3, 4 -> "e9n0l9;e0n9l9;w9s9l9;k";
            case 5 -> "w" + between(0, 9999) + "s" + between(9990, 10009) + "l" + between(19990, 20009);
            default -> (oneIn(2) ? "e" : "w") + between(0, 12) + (oneIn(2) ? "n" : "s") + between(0, 120)
                + "l" + between(1, 1200);
        };
    }

    private void spoil(StringBuilder text) {
        String signs = "ewnslbkg;0123456789 x\u00e9\u2665";
        char sign = signs.charAt(next(signs.length()));
        int place = next(text.length());
        switch (next(4)) {
            case 0 -> text.setCharAt(place, sign);
            case 1 -> text.insert(place, sign);
            case 2 -> text.deleteCharAt(place);
            default -> text.append(sign);
        }
    }

    private void back() {
        switch (next(7)) {
            case 0 -> call("takeSnapshot");
            case 1 -> call("restoreSnapshot");
            case 2 -> call("recordedStates");
            default -> call("undo");
        }
    }

    private void aboutTraverse() {
        call("legs");
        call("traverseLength");
        call("errorEast");
        call("errorNorth");
        call("isClose");
        int corner = oneIn(8) ? between(-1, 13) : next(plain.legs() + 1);
        call("adjustedEast", corner);
        call("adjustedNorth", corner);
    }

    private void aboutFields() {
        call("fields");
        call("largestField");
        call("twiceAreaOfAll");
        int field = field();
        for (int k = 0; k < 3; k++) {
            aboutField(field);
        }
    }

    private void aboutField(int field) {
        switch (next(9)) {
            case 0 -> {
                call("cornersOf", field);
                int corner = corner(field);
                call("cornerEast", field, corner);
                call("cornerNorth", field, corner);
            }
            case 1 -> turns("leftTurns", field);
            case 2 -> turns("turnsOneWay", field);
            case 3 -> sidesEastOf(field);
            case 4 -> call("sharedSides", field, field());
            case 5 -> {
                call("twiceAreaByCorners", field);
                call("twiceAreaByStrips", field);
            }
            case 6 -> {
                call("acresOf", field);
                call("roodsOf", field);
                call("perchesOf", field);
            }
            case 7 -> call("sheetsFor", field, oneIn(10) ? between(-1, 9) : oneIn(10) ? 1001 : between(10, 1000));
            default -> call("scaleFor", field);
        }
    }

    private void turns(String name, int field) {
        if (plain.saysTurnsOf(field)) {
            call(name, field);
        }
    }

    private void sidesEastOf(int field) {
        boolean known = field >= 0 && field < plain.fields();
        if (!known || oneIn(8)) {
            call("sidesEastOf", field, part(200000), part(200000));
            return;
        }
        int corners = plain.cornersOf(field);
        int a = next(corners);
        int b = next(corners);
        int east = (plain.cornerEast(field, a) + plain.cornerEast(field, b)) / 2 + between(-1, 1);
        int north = oneIn(2) ? plain.cornerNorth(field, a)
            : (plain.cornerNorth(field, a) + plain.cornerNorth(field, b)) / 2 + between(-1, 1);
        call("sidesEastOf", field, east, north);
    }
}
