/** Promises 26 to 29: turns, sides to the east of a point, shared sides. */
public final class FieldTest {
    public static void main(String[] args) {
        square();
        squareTheOtherWay();
        corneredField();
        straightCorners();
        wideTurn();
        nothingIsLeftOfAnOlderField();
        sidesEastOfASquare();
        sidesEastOfSlopes();
        sidesEastOfFarPoints();
        sidesEastOfWrongPoints();
        sharedSides();
        sharedSidesTwice();
        fieldsThatAreNot();
        Check.finish("FieldTest");
    }

    private static AcreOffice with(int... corners) {
        AcreOffice x = new AcreOffice();
        Check.keepCorners(x, corners);
        return x;
    }

    private static void turns(String what, AcreOffice x, int left, boolean oneWay) {
        Check.number("P26 " + what, x.leftTurns(0), left);
        Check.same("P27 " + what, x.turnsOneWay(0), oneWay);
    }

    private static void square() {
        turns("square", with(0, 0, 100, 0, 100, 100, 0, 100), 4, true);
        turns("square, begun elsewhere", with(100, 100, 0, 100, 0, 0, 100, 0), 4, true);
    }

    private static void squareTheOtherWay() {
        turns("square the other way", with(0, 0, 0, 100, 100, 100, 100, 0), 0, true);
    }

    private static void corneredField() {
        turns("L", with(0, 0, 200, 0, 200, 100, 100, 100, 100, 200, 0, 200), 5, false);
        turns("L the other way", with(0, 0, 0, 200, 100, 200, 100, 100, 200, 100, 200, 0), 1, false);
        turns("the one left turn is at corner 0", with(100, 100, 200, 100, 200, 0, 0, 0, 0, 200, 100, 200), 1, false);
        turns("the one right turn is at corner 0", with(100, 100, 100, 200, 0, 200, 0, 0, 200, 0, 200, 100), 5, false);
        turns("the least turns", with(0, 0, 1, 0, 0, 1), 3, true);
        turns("the least turns to the right", with(0, 0, 0, 1, 1, 0), 0, true);
        turns("arrow", with(0, 0, 100, 30, 200, 0, 100, 200), 3, false);
    }

    /** Fields are kept in the place of one that had more corners, all of them elsewhere. */
    private static void nothingIsLeftOfAnOlderField() {
        AcreOffice x = with(9000, 50, 9500, 40, 9600, 500, 9000, 900, 8000, 800, 7000, 90);
        x.giveUp(0);
        Check.keepCorners(x, 100, 100, 200, 100, 200, 200, 100, 200);
        turns("square in an old place", x, 4, true);
        Check.number("P23 square in an old place", x.cornersOf(0), 4);
        Check.number("P28 square in an old place", x.sidesEastOf(0, 99, 150), 2);
        Check.number("P29 square in an old place", x.sharedSides(0, 0), 4);
        Check.number("P30 square in an old place", x.twiceAreaByCorners(0), 20000);
        Check.number("P31 square in an old place", x.twiceAreaByStrips(0), 20000);
        Check.number("P37 square in an old place", x.sheetsFor(0, 10), 1);
        Check.number("P38 square in an old place", x.scaleFor(0), 10);
        x.giveUp(0);
        Check.keepCorners(x, 100, 100, 100, 200, 200, 200);
        turns("triangle in an old place", x, 0, true);
        Check.number("P30 triangle in an old place", x.twiceAreaByCorners(0), 10000);
    }

    private static void straightCorners() {
        turns("straight on", with(0, 0, 50, 0, 100, 0, 100, 100, 0, 100), 4, true);
        turns("straight on, right", with(0, 0, 0, 100, 100, 100, 100, 0, 50, 0), 0, true);
        turns("straight corner 0", with(50, 0, 100, 0, 100, 100, 0, 100, 0, 0), 4, true);
    }

    private static void wideTurn() {
        // the products of the parts are beyond an int
        AcreOffice x = new AcreOffice();
        x.setOrigin(-50000, -50000);
        int[] easts = {9999, 9999, 9999, 9999, 9999, 9999, -9999, -9999, -9999, -9999, -9999, -9999};
        for (int k = 0; k < 12; k++) {
            x.addLeg(easts[k], k == 5 ? 9999 : k == 11 ? -9999 : 0, 20000);
        }
        x.keep();
        turns("wide", x, 4, true);
        Check.number("P28 wide", x.sidesEastOf(0, -50000, -49999), 2);
        AcreOffice y = with(0, 0, 9999, 9999, 0, 9999, -9999, 9998);
        turns("wide angles", y, 4, true);
    }

    private static void sidesEastOfASquare() {
        AcreOffice x = with(0, 0, 100, 0, 100, 100, 0, 100);
        Check.number("P28 inside", x.sidesEastOf(0, 50, 50), 1);
        Check.number("P28 to the west", x.sidesEastOf(0, -1, 50), 2);
        Check.number("P28 to the east", x.sidesEastOf(0, 101, 50), 0);
        Check.number("P28 on the west side", x.sidesEastOf(0, 0, 50), 1);
        Check.number("P28 on the east side", x.sidesEastOf(0, 100, 50), 0);
        Check.number("P28 just west of the east side", x.sidesEastOf(0, 99, 50), 1);
        Check.number("P28 at the height of the south side", x.sidesEastOf(0, -5, 0), 2);
        Check.number("P28 below the south side", x.sidesEastOf(0, -5, -1), 0);
        Check.number("P28 at the height of the north side", x.sidesEastOf(0, -5, 100), 0);
        Check.number("P28 just below the north side", x.sidesEastOf(0, -5, 99), 2);
    }

    private static void sidesEastOfSlopes() {
        // at a height of 5 the sides stand at 1.5 and 18.5
        AcreOffice x = with(0, 0, 20, 0, 17, 10, 3, 10);
        Check.number("P28 west of 1.5", x.sidesEastOf(0, 1, 5), 2);
        Check.number("P28 east of 1.5", x.sidesEastOf(0, 2, 5), 1);
        Check.number("P28 west of 18.5", x.sidesEastOf(0, 18, 5), 1);
        Check.number("P28 east of 18.5", x.sidesEastOf(0, 19, 5), 0);
        AcreOffice half = with(0, 0, 9, 0, 1, 2);
        Check.number("P28 half a link to the west", half.sidesEastOf(0, 0, 1), 2);
        Check.number("P28 half a link to the east", half.sidesEastOf(0, 1, 1), 1);
        AcreOffice y = with(0, 0, -3, 10, -17, 10, -20, 0);
        Check.number("P28 west of -1.5", y.sidesEastOf(0, -2, 5), 1);
        Check.number("P28 east of -1.5", y.sidesEastOf(0, -1, 5), 0);
        AcreOffice diamond = with(0, -10, 10, 0, 0, 10, -10, 0);
        Check.number("P28 at the height of two corners", diamond.sidesEastOf(0, 0, 0), 1);
        Check.number("P28 west, at the height of two corners", diamond.sidesEastOf(0, -11, 0), 2);
        Check.number("P28 on the diamond's side", diamond.sidesEastOf(0, 5, 5), 0);
        AcreOffice zigzag = with(0, 0, 60, 0, 50, 20, 40, 5, 30, 20, 20, 5, 10, 20);
        Check.number("P28 six sides", zigzag.sidesEastOf(0, -1, 10), 6);
        Check.number("P28 three sides", zigzag.sidesEastOf(0, 30, 10), 3);
    }

    private static void sidesEastOfFarPoints() {
        AcreOffice x = new AcreOffice();
        x.setOrigin(50000, 50000);
        x.addLeg(9999, 9999, 20000);
        x.addLeg(-9999, 9999, 20000);
        x.addLeg(-9999, -9999, 20000);
        x.addLeg(9999, -9999, 20000);
        x.keep();
        Check.number("P28 least east", x.sidesEastOf(0, -200000, 60000), 2);
        Check.number("P28 greatest east", x.sidesEastOf(0, 200000, 60000), 0);
        Check.number("P28 least north", x.sidesEastOf(0, 0, -200000), 0);
        Check.number("P28 greatest north", x.sidesEastOf(0, 0, 200000), 0);
        Check.number("P28 middle", x.sidesEastOf(0, 50000, 60000), 1);
    }

    private static void sidesEastOfWrongPoints() {
        AcreOffice x = with(0, 0, 100, 0, 100, 100);
        Check.badArgument("P28 east above", x, () -> x.sidesEastOf(0, 200001, 0));
        Check.badArgument("P28 east below", x, () -> x.sidesEastOf(0, -200001, 0));
        Check.badArgument("P28 north above", x, () -> x.sidesEastOf(0, 0, 200001));
        Check.badArgument("P28 north below", x, () -> x.sidesEastOf(0, 0, -200001));
        Check.badArgument("P28 least int", x, () -> x.sidesEastOf(0, 0, Integer.MIN_VALUE));
        Check.noField("P28 the field goes first", x, () -> x.sidesEastOf(1, 200001, 0));
        Check.noField("P28 no such field", x, () -> x.sidesEastOf(-1, 0, 0));
    }

    private static void sharedSides() {
        AcreOffice x = with(0, 0, 100, 0, 100, 100, 0, 100);
        Check.keepCorners(x, 100, 0, 200, 0, 200, 100, 100, 100);
        Check.keepCorners(x, 100, 100, 100, 0, 0, 0);
        Check.keepCorners(x, 0, 0, 50, 0, 50, -50);
        Check.number("P29 in the other direction", x.sharedSides(0, 1), 1);
        Check.number("P29 and back", x.sharedSides(1, 0), 1);
        Check.number("P29 two sides", x.sharedSides(0, 2), 2);
        Check.number("P29 two sides, back", x.sharedSides(2, 0), 2);
        Check.number("P29 one side", x.sharedSides(2, 1), 1);
        Check.number("P29 a piece of a side is no side", x.sharedSides(0, 3), 0);
        Check.number("P29 a corner is no side", x.sharedSides(1, 3), 0);
        Check.number("P29 itself", x.sharedSides(0, 0), 4);
        Check.number("P29 itself", x.sharedSides(2, 2), 3);
        Check.keepCorners(x, 0, 0, 100, 0, 100, 100, 0, 100);
        Check.number("P29 its like", x.sharedSides(0, 4), 4);
        Check.keepCorners(x, 0, 100, 100, 0, 0, 0);
        Check.number("P29 the side behind the last corner", x.sharedSides(5, 0), 2);
        Check.number("P29 the side behind the last corner", x.sharedSides(0, 5), 2);
    }

    private static void sharedSidesTwice() {
        AcreOffice x = with(0, 0, 100, 0, 0, 0, 0, 100, -100, 100);
        Check.keepCorners(x, 0, 0, 100, 0, 0, -100);
        Check.number("P29 there and back are two sides", x.sharedSides(0, 1), 2);
        Check.number("P29 and one of the other", x.sharedSides(1, 0), 1);
        Check.keepCorners(x, 0, 0, 100, 0, 100, 0, 0, -100);
        Check.number("P29 a side of no length is shared with none", x.sharedSides(2, 1), 3);
        Check.number("P29 a side of no length is its own", x.sharedSides(2, 2), 4);
    }

    private static void fieldsThatAreNot() {
        int[] wrong = {-1, 1, 6, Integer.MIN_VALUE, Integer.MAX_VALUE};
        for (int f : wrong) {
            AcreOffice x = with(0, 0, 100, 0, 100, 100);
            Check.noField("P26 field " + f, x, () -> x.leftTurns(f));
            Check.noField("P27 field " + f, x, () -> x.turnsOneWay(f));
            Check.noField("P28 field " + f, x, () -> x.sidesEastOf(f, 0, 0));
            Check.noField("P29 field " + f, x, () -> x.sharedSides(f, 0));
            Check.noField("P29 other " + f, x, () -> x.sharedSides(0, f));
        }
    }
}
