import java.util.ArrayList;
import java.util.List;

/** Counts what a test checks, and says what is not as it is due. */
final class Check {
    /** A call that may throw. */
    interface Call {
        void run();
    }

    private static int made = 0;
    private static int wrong = 0;

    private Check() {
    }

    static void same(String what, Object got, Object due) {
        made++;
        if (!due.equals(got)) {
            wrong++;
            System.out.println(what + ": got " + got + ", due is " + due);
        }
    }

    static void number(String what, long got, long due) {
        same(what, got, due);
    }

    static void holds(String what, boolean got) {
        same(what, got, true);
    }

    static void fails(String what, boolean got) {
        same(what, got, false);
    }

    /** The call throws just this exception, and the office looks as before. */
    static void refuses(String what, AcreOffice office, Class<?> due, Call call) {
        String before = pictureOf(office);
        String thrown = thrownBy(call);
        same(what, thrown, due.getName());
        same(what + " (changes nothing)", pictureOf(office), before);
    }

    static void noField(String what, AcreOffice office, Call call) {
        refuses(what, office, IndexOutOfBoundsException.class, call);
    }

    static void badArgument(String what, AcreOffice office, Call call) {
        refuses(what, office, IllegalArgumentException.class, call);
    }

    static void badState(String what, AcreOffice office, Call call) {
        refuses(what, office, IllegalStateException.class, call);
    }

    static String thrownBy(Call call) {
        try {
            call.run();
            return "nothing";
        } catch (RuntimeException e) {
            return e.getClass().getName();
        }
    }

    /** What the calls that change nothing answer. */
    static String pictureOf(AcreOffice office) {
        return stateOf(office) + " recorded " + office.recordedStates() + " text " + office.textError();
    }

    /** The state alone: without text, recorded states and snapshot. */
    static String stateOf(AcreOffice office) {
        List<Object> seen = new ArrayList<>();
        int legs = office.legs();
        seen.add(legs);
        seen.add(office.traverseLength());
        seen.add(office.errorEast());
        seen.add(office.errorNorth());
        for (int k = 0; k <= legs; k++) {
            seen.add(office.adjustedEast(k));
            seen.add(office.adjustedNorth(k));
        }
        int fields = office.fields();
        seen.add("fields " + fields);
        for (int f = 0; f < fields; f++) {
            int corners = office.cornersOf(f);
            seen.add("corners " + corners);
            for (int c = 0; c < corners; c++) {
                seen.add(office.cornerEast(f, c));
                seen.add(office.cornerNorth(f, c));
            }
        }
        return seen.toString();
    }

    static void type(AcreOffice office, String text) {
        for (int i = 0; i < text.length(); i++) {
            office.type(text.charAt(i));
        }
    }

    static void retype(AcreOffice office, String text) {
        office.clearText();
        type(office, text);
    }

    /** Keeps the field with these corners, told by east and north parts in turn, without an error. */
    static int keepCorners(AcreOffice office, int... parts) {
        office.setOrigin(parts[0], parts[1]);
        for (int i = 0; i < parts.length; i += 2) {
            int next = (i + 2) % parts.length;
            office.addLeg(parts[next] - parts[i], parts[next + 1] - parts[i + 1], 100);
        }
        return office.keep();
    }

    static void finish(String name) {
        System.out.println(name + ": " + made + " checks, " + wrong + " wrong");
        if (wrong != 0 || made == 0) {
            System.exit(1);
        }
    }
}
