/** Promises 5, 6 and 22 to 25: fields are kept and given up, and tell their corners. */
public final class KeepTest {
    public static void main(String[] args) {
        keepsAdjustedCorners();
        tooFewLegs();
        notClose();
        noArea();
        areaOfTheAdjustedCorners();
        sixFields();
        twelveCorners();
        giveUp();
        fieldsThatAreNot();
        cornersThatAreNot();
        Check.finish("KeepTest");
    }

    private static AcreOffice withTwoFields() {
        AcreOffice x = new AcreOffice();
        Check.keepCorners(x, 0, 0, 100, 0, 0, 100);
        Check.keepCorners(x, 10, -20, 300, 0, 300, 200, 0, 200);
        return x;
    }

    private static void keepsAdjustedCorners() {
        AcreOffice x = new AcreOffice();
        x.setOrigin(-500, 700);
        x.addLeg(1000, 1, 1000);
        x.addLeg(3, 1000, 1000);
        x.addLeg(-1002, -1, 1000);
        x.addLeg(0, -1001, 1000);
        // error 1 east, -1 north; each corner has a share of one or more quarters
        Check.number("P5 first number", x.keep(), 0);
        Check.number("P5 no legs then", x.legs(), 0);
        Check.number("P5 no length then", x.traverseLength(), 0);
        Check.number("P5 no error then", x.errorEast(), 0);
        Check.number("P5 no error then", x.errorNorth(), 0);
        Check.number("P5 the origin stays", x.adjustedEast(0), -500);
        Check.number("P5 the origin stays", x.adjustedNorth(0), 700);
        Check.number("P5 is one action", x.recordedStates(), 4);
        Check.number("P5 undone", x.undo(), 3);
        Check.number("P5 undone, the legs are back", x.legs(), 4);
        Check.number("P5 again", x.keep(), 0);
        Check.number("P22", x.fields(), 1);
        Check.number("P23", x.cornersOf(0), 4);
        int[] easts = {-500, 500, 503, -499};
        int[] norths = {700, 702, 1702, 1701};
        for (int k = 0; k < 4; k++) {
            Check.number("P24 corner " + k, x.cornerEast(0, k), easts[k]);
            Check.number("P25 corner " + k, x.cornerNorth(0, k), norths[k]);
        }
        x.setOrigin(1, 1);
        Check.number("P24 a field stays where it is", x.cornerEast(0, 0), -500);
    }

    private static void tooFewLegs() {
        AcreOffice x = new AcreOffice();
        Check.badState("P5 no legs", x, x::keep);
        x.addLeg(10, 0, 10);
        Check.badState("P5 one leg", x, x::keep);
        x.addLeg(-10, 0, 10);
        Check.badState("P5 two legs", x, x::keep);
        x.addLeg(0, 0, 10);
        Check.badState("P5 three legs without an area", x, x::keep);
    }

    private static void notClose() {
        AcreOffice x = new AcreOffice();
        x.addLeg(100, 0, 100);
        x.addLeg(0, 100, 50);
        x.addLeg(-99, -100, 49);
        Check.badState("P5 an error of 1 in 199", x, x::keep);
        x.takeBack();
        x.addLeg(-99, -100, 50);
        Check.number("P5 an error of 1 in 200", x.keep(), 0);
    }

    private static void noArea() {
        AcreOffice x = new AcreOffice();
        x.addLeg(100, 0, 100);
        x.addLeg(-50, 0, 100);
        x.addLeg(-50, 0, 100);
        Check.badState("P5 there and back", x, x::keep);
        AcreOffice eight = new AcreOffice();
        eight.addLeg(100, 100, 1);
        eight.addLeg(0, -100, 1);
        eight.addLeg(-100, 100, 1);
        eight.addLeg(0, -100, 1);
        Check.badState("P5 two loops of the same size", eight, eight::keep);
        AcreOffice least = new AcreOffice();
        least.addLeg(1, 0, 1);
        least.addLeg(0, 1, 1);
        least.addLeg(-1, -1, 1);
        Check.number("P5 the least area", least.keep(), 0);
        Check.number("P30 the least area", least.twiceAreaByCorners(0), 1);
    }

    private static void areaOfTheAdjustedCorners() {
        AcreOffice x = new AcreOffice();
        x.addLeg(100, 0, 100);
        x.addLeg(-50, 0, 50);
        x.addLeg(-50, -1, 50);
        Check.number("P5 only the adjusted corners have an area", x.keep(), 0);
        Check.number("P25", x.cornerNorth(0, 1), 1);
        Check.number("P30", x.twiceAreaByCorners(0), 50);
        AcreOffice y = new AcreOffice();
        y.addLeg(100, 0, 100);
        y.addLeg(-50, 0, 50);
        y.addLeg(-50, 1, 50);
        Check.badState("P5 the adjusted corners have no area", y, y::keep);
    }

    private static void sixFields() {
        AcreOffice x = new AcreOffice();
        for (int k = 0; k < 6; k++) {
            Check.number("P5 field " + k, Check.keepCorners(x, k, 0, k + 100, 0, k, 100), k);
            Check.number("P22 after " + k, x.fields(), k + 1);
        }
        x.addLeg(100, 0, 100);
        x.addLeg(0, 100, 100);
        x.addLeg(-100, -100, 100);
        Check.badState("P5 a seventh field", x, x::keep);
        Check.number("P6 makes room", x.giveUp(2), 5);
        Check.number("P5 in the room", x.keep(), 5);
        int[] firstEasts = {0, 1, 3, 4, 5, 5};
        for (int k = 0; k < 6; k++) {
            Check.number("P6 order, field " + k, x.cornerEast(k, 0), firstEasts[k]);
        }
    }

    private static void twelveCorners() {
        AcreOffice x = new AcreOffice();
        for (int k = 0; k < 6; k++) {
            x.addLeg(10, k, 10);
        }
        for (int k = 5; k >= 0; k--) {
            x.addLeg(-10, -k + (k == 0 ? 5 : k == 5 ? -5 : 0), 10);
        }
        Check.number("P5 twelve legs", x.keep(), 0);
        Check.number("P23 twelve corners", x.cornersOf(0), 12);
        Check.number("P24 corner 6", x.cornerEast(0, 6), 60);
        Check.number("P25 corner 6", x.cornerNorth(0, 6), 15);
        Check.number("P24 corner 11", x.cornerEast(0, 11), 10);
        Check.number("P25 corner 11", x.cornerNorth(0, 11), -5);
        Check.noField("P24 corner 12", x, () -> x.cornerEast(0, 12));
    }

    private static void giveUp() {
        AcreOffice x = withTwoFields();
        Check.noField("P6 below", x, () -> x.giveUp(-1));
        Check.noField("P6 above", x, () -> x.giveUp(2));
        Check.noField("P6 greatest int", x, () -> x.giveUp(Integer.MAX_VALUE));
        Check.number("P6 one is left", x.giveUp(0), 1);
        Check.number("P6 the one behind comes up", x.cornersOf(0), 4);
        Check.number("P6 its corner", x.cornerEast(0, 0), 10);
        Check.number("P6 its corner", x.cornerNorth(0, 2), 200);
        Check.noField("P6 its old number", x, () -> x.giveUp(1));
        Check.number("P6 is an action", x.undo(), 3);
        Check.number("P6 undone", x.cornersOf(0), 3);
        Check.number("P6 undone", x.cornersOf(1), 4);
        Check.number("P6 the last one", x.giveUp(1), 1);
        Check.number("P6 the first one stays", x.cornersOf(0), 3);
        Check.number("P6 none is left", x.giveUp(0), 0);
        Check.noField("P6 none", x, () -> x.giveUp(0));
    }

    private static void fieldsThatAreNot() {
        AcreOffice none = new AcreOffice();
        Check.noField("P23 no field at all", none, () -> none.cornersOf(0));
        int[] wrong = {-1, 2, 6, Integer.MIN_VALUE, Integer.MAX_VALUE};
        for (int f : wrong) {
            AcreOffice x = withTwoFields();
            Check.noField("P23 field " + f, x, () -> x.cornersOf(f));
            Check.noField("P24 field " + f, x, () -> x.cornerEast(f, 0));
            Check.noField("P25 field " + f, x, () -> x.cornerNorth(f, 0));
        }
    }

    private static void cornersThatAreNot() {
        AcreOffice x = withTwoFields();
        Check.noField("P24 below", x, () -> x.cornerEast(0, -1));
        Check.noField("P24 above", x, () -> x.cornerEast(0, 3));
        Check.number("P24 the other field has it", x.cornerEast(1, 3), 0);
        Check.noField("P24 above there", x, () -> x.cornerEast(1, 4));
        Check.noField("P25 below", x, () -> x.cornerNorth(0, -1));
        Check.noField("P25 above", x, () -> x.cornerNorth(0, 3));
        Check.number("P25 the other field has it", x.cornerNorth(1, 3), 200);
        Check.noField("P25 above there", x, () -> x.cornerNorth(1, 4));
    }
}
