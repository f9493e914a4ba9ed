/** Every call that throws, in an empty, a busy and a full office: the first exception, and no change. */
public final class RefusalsTest {
    private static final Class<?> ARGUMENT = IllegalArgumentException.class;
    private static final Class<?> STATE = IllegalStateException.class;
    private static final Class<?> INDEX = IndexOutOfBoundsException.class;

    private final String name;
    private final Twin.Deed past;

    private RefusalsTest(String name, Twin.Deed past) {
        this.name = name;
        this.past = past;
    }

    public static void main(String[] args) {
        RefusalsTest empty = new RefusalsTest("an empty office", x -> { });
        RefusalsTest busy = new RefusalsTest("a busy office", RefusalsTest::makeBusy);
        RefusalsTest full = new RefusalsTest("a full office", RefusalsTest::makeFull);
        RefusalsTest[] all = {empty, busy, full};
        for (RefusalsTest one : all) {
            one.argumentsOutOfRange();
            one.cornersOfTheTraverse();
            one.fields();
            one.fieldsAheadOfArguments();
        }
        empty.emptyOffice();
        busy.busyOffice();
        full.fullOffice();
        texts();
        Check.finish("RefusalsTest");
    }

    /** Two fields, three legs that are not close, a valid text, a snapshot, three recorded states. */
    private static void makeBusy(AcreOffice x) {
        Offices.box(x, 300, 400);
        Offices.triangle(x, 700, 50);
        x.takeSnapshot();
        x.setOrigin(-12, 34);
        x.addLeg(40, 0, 40);
        x.addLeg(0, 40, 40);
        x.addLeg(-40, -39, 40);
        x.giveUp(0);
        x.undo();
        Check.type(x, "b;g0;e5n6l7");
    }

    /** Six fields, twelve legs, eighty characters, four recorded states, a snapshot. */
    private static void makeFull(AcreOffice x) {
        Offices.sixFields(x);
        Offices.closedLegs(x);
        x.takeSnapshot();
        Offices.legs(x, 9);
        Check.type(x, "g5;" + Offices.FULL_TEXT.substring(3));
    }

    private void refuses(String call, Class<?> due, Twin.Deed deed) {
        Twin.refuses(call + " in " + name, due, past, deed);
    }

    private void argumentsOutOfRange() {
        int[] parts = {-10000, 10000, Integer.MIN_VALUE, Integer.MAX_VALUE};
        for (int part : parts) {
            refuses("P2 addLeg to the east by " + part, ARGUMENT, x -> x.addLeg(part, 0, 1));
            refuses("P2 addLeg to the north by " + part, ARGUMENT, x -> x.addLeg(0, part, 1));
        }
        int[] lengths = {0, -1, 20001, Integer.MIN_VALUE, Integer.MAX_VALUE};
        for (int length : lengths) {
            refuses("P2 addLeg of length " + length, ARGUMENT, x -> x.addLeg(0, 0, length));
        }
        int[] places = {-50001, 50001, Integer.MIN_VALUE, Integer.MAX_VALUE};
        for (int place : places) {
            refuses("P4 setOrigin at " + place + " to the east", ARGUMENT, x -> x.setOrigin(place, 0));
            refuses("P4 setOrigin at " + place + " to the north", ARGUMENT, x -> x.setOrigin(0, place));
        }
    }

    private void cornersOfTheTraverse() {
        int[] corners = {-1, 13, Integer.MIN_VALUE, Integer.MAX_VALUE};
        for (int corner : corners) {
            refuses("P20 adjustedEast of " + corner, INDEX, x -> x.adjustedEast(corner));
            refuses("P21 adjustedNorth of " + corner, INDEX, x -> x.adjustedNorth(corner));
        }
        refuses("P20 adjustedEast behind the last", INDEX, x -> x.adjustedEast(x.legs() + 1));
        refuses("P21 adjustedNorth behind the last", INDEX, x -> x.adjustedNorth(x.legs() + 1));
    }

    private void fields() {
        int[] wrong = {-1, 6, Integer.MIN_VALUE, Integer.MAX_VALUE};
        for (int f : wrong) {
            noSuchField(f);
        }
    }

    private void noSuchField(int f) {
        refuses("P6 giveUp of " + f, INDEX, x -> x.giveUp(f));
        refuses("P23 cornersOf of " + f, INDEX, x -> x.cornersOf(f));
        refuses("P24 cornerEast of " + f, INDEX, x -> x.cornerEast(f, 0));
        refuses("P25 cornerNorth of " + f, INDEX, x -> x.cornerNorth(f, 0));
        refuses("P26 leftTurns of " + f, INDEX, x -> x.leftTurns(f));
        refuses("P27 turnsOneWay of " + f, INDEX, x -> x.turnsOneWay(f));
        refuses("P28 sidesEastOf of " + f, INDEX, x -> x.sidesEastOf(f, 0, 0));
        refuses("P29 sharedSides of " + f, INDEX, x -> x.sharedSides(f, 0));
        refuses("P29 sharedSides with " + f, INDEX, x -> x.sharedSides(0, f));
        refuses("P30 twiceAreaByCorners of " + f, INDEX, x -> x.twiceAreaByCorners(f));
        refuses("P31 twiceAreaByStrips of " + f, INDEX, x -> x.twiceAreaByStrips(f));
        refuses("P32 acresOf of " + f, INDEX, x -> x.acresOf(f));
        refuses("P33 roodsOf of " + f, INDEX, x -> x.roodsOf(f));
        refuses("P34 perchesOf of " + f, INDEX, x -> x.perchesOf(f));
        refuses("P37 sheetsFor of " + f, INDEX, x -> x.sheetsFor(f, 10));
        refuses("P38 scaleFor of " + f, INDEX, x -> x.scaleFor(f));
    }

    private void fieldsAheadOfArguments() {
        refuses("P28 no field and no east part", INDEX, x -> x.sidesEastOf(6, 200001, 0));
        refuses("P28 no field and no north part", INDEX, x -> x.sidesEastOf(-1, 0, -200001));
        refuses("P37 no field and too few links", INDEX, x -> x.sheetsFor(6, 9));
        refuses("P37 no field and too many links", INDEX, x -> x.sheetsFor(-1, 1001));
        refuses("P24 no field and no corner", INDEX, x -> x.cornerEast(6, -1));
        refuses("P25 no field and no corner", INDEX, x -> x.cornerNorth(6, -1));
    }

    private void emptyOffice() {
        noSuchField(0);
        refuses("P3 takeBack", STATE, x -> x.takeBack());
        refuses("P5 keep", STATE, x -> x.keep());
        refuses("P10 impossibleOrder", STATE, x -> x.impossibleOrder());
        refuses("P11 carryOut", STATE, x -> x.carryOut());
        refuses("P12 undo", STATE, x -> x.undo());
        refuses("P14 restoreSnapshot", STATE, x -> x.restoreSnapshot());
    }

    private void busyOffice() {
        noSuchField(2);
        refuses("P5 keep of a traverse that is not close", STATE, x -> x.keep());
        pointsAndLinks();
        refuses("P24 corner 4 of a box", INDEX, x -> x.cornerEast(0, 4));
        refuses("P25 corner 3 of a triangle", INDEX, x -> x.cornerNorth(1, 3));
        refuses("P24 corner -1", INDEX, x -> x.cornerEast(0, -1));
        refuses("P25 corner -1", INDEX, x -> x.cornerNorth(0, -1));
    }

    private void fullOffice() {
        refuses("P2 addLeg", STATE, x -> x.addLeg(1, 1, 1));
        refuses("P5 keep", STATE, x -> x.keep());
        refuses("P7 type of a character that ends a text", STATE, x -> x.type('b'));
        refuses("P7 type of the greatest character", STATE, x -> x.type((char) 65535));
        refuses("P11 carryOut of an order that cannot be", STATE, x -> x.carryOut());
        pointsAndLinks();
    }

    private void pointsAndLinks() {
        int[] parts = {-200001, 200001, Integer.MIN_VALUE, Integer.MAX_VALUE};
        for (int part : parts) {
            refuses("P28 sidesEastOf " + part + " to the east", ARGUMENT, x -> x.sidesEastOf(0, part, 0));
            refuses("P28 sidesEastOf " + part + " to the north", ARGUMENT, x -> x.sidesEastOf(0, 0, part));
        }
        int[] links = {9, 1001, 0, -10, Integer.MIN_VALUE, Integer.MAX_VALUE};
        for (int link : links) {
            refuses("P37 sheetsFor by " + link, ARGUMENT, x -> x.sheetsFor(0, link));
        }
    }

    /** Texts that are refused for each reason, in an office with a leg and a field. */
    private static void texts() {
        String[] invalid = {"", "x", "b;", "b;x", "g6", "e1n1l0", "e1n1l20001", "e01n1l1", "b;".repeat(40),
            "g0;b" + "?".repeat(76)};
        for (String text : invalid) {
            RefusalsTest office = withText(text);
            office.refuses("P10 impossibleOrder", STATE, x -> x.impossibleOrder());
            office.refuses("P11 carryOut", STATE, x -> x.carryOut());
        }
        String[] impossible = {"k", "g1", "b;b", "g0;g0", "e1n1l1;b;b;b", "g0;b;k", "b;e9n0l9;e0n9l9;w9s9l9;k;g0;g1",
            "e1n1l1" + ";e1n1l1".repeat(10) + ";b;k"};
        for (String text : impossible) {
            withText(text).refuses("P11 carryOut", STATE, x -> x.carryOut());
        }
    }

    private static RefusalsTest withText(String text) {
        return new RefusalsTest("an office with the text '" + text + "'", x -> {
            Offices.box(x, 300, 400);
            x.takeSnapshot();
            x.addLeg(40, 30, 50);
            x.undo();
            x.addLeg(40, 31, 51);
            Check.type(x, text);
        });
    }
}
