/** Promises 1 to 4 and 15 to 21: the traverse, its closing error and its adjusted corners. */
public final class TraverseTest {
    public static void main(String[] args) {
        aNewOffice();
        addLeg();
        addLegOutOfRange();
        addLegToAFullTraverse();
        takeBack();
        setOrigin();
        lengthAndErrors();
        closeness();
        adjustedCorners();
        adjustedCornersOfOneLeg();
        adjustedCornersFarFromClose();
        adjustedCornersThatAreNot();
        Check.finish("TraverseTest");
    }

    private static void aNewOffice() {
        AcreOffice x = new AcreOffice();
        Check.number("P1 NONE", AcreOffice.NONE, -1);
        Check.number("P1 legs", x.legs(), 0);
        Check.number("P1 fields", x.fields(), 0);
        Check.number("P1 recordedStates", x.recordedStates(), 0);
        Check.number("P1 traverseLength", x.traverseLength(), 0);
        Check.number("P1 errorEast", x.errorEast(), 0);
        Check.number("P1 errorNorth", x.errorNorth(), 0);
        Check.holds("P19 an empty traverse is close", x.isClose());
        Check.number("P20 the origin at first", x.adjustedEast(0), 0);
        Check.number("P21 the origin at first", x.adjustedNorth(0), 0);
        Check.number("P35 no field", x.largestField(), AcreOffice.NONE);
        Check.number("P36 no field", x.twiceAreaOfAll(), 0);
        Check.number("P1 the text is empty", x.clearText(), 0);
        Check.badState("P1 no recorded state", x, x::undo);
        Check.badState("P1 no snapshot", x, x::restoreSnapshot);
        x.addLeg(1, 2, 3);
        Check.number("P1 offices share nothing", new AcreOffice().legs(), 0);
    }

    private static void addLeg() {
        AcreOffice x = new AcreOffice();
        Check.number("P2 first", x.addLeg(9999, -9999, 1), 1);
        Check.number("P2 second", x.addLeg(-9999, 9999, 20000), 2);
        Check.number("P2 third", x.addLeg(0, 0, 7), 3);
        Check.number("P15 legs", x.legs(), 3);
        Check.number("P2 is an action", x.recordedStates(), 3);
        Check.number("P2 measured length", x.traverseLength(), 20008);
    }

    private static void addLegOutOfRange() {
        AcreOffice x = new AcreOffice();
        x.addLeg(5, 6, 7);
        Check.badArgument("P2 east above", x, () -> x.addLeg(10000, 0, 1));
        Check.badArgument("P2 east below", x, () -> x.addLeg(-10000, 0, 1));
        Check.badArgument("P2 north above", x, () -> x.addLeg(0, 10000, 1));
        Check.badArgument("P2 north below", x, () -> x.addLeg(0, -10000, 1));
        Check.badArgument("P2 length 0", x, () -> x.addLeg(0, 0, 0));
        Check.badArgument("P2 length below 0", x, () -> x.addLeg(0, 0, -1));
        Check.badArgument("P2 length above", x, () -> x.addLeg(0, 0, 20001));
        Check.badArgument("P2 least int", x, () -> x.addLeg(Integer.MIN_VALUE, 0, 1));
        Check.badArgument("P2 least int north", x, () -> x.addLeg(0, Integer.MIN_VALUE, 1));
        Check.badArgument("P2 greatest int", x, () -> x.addLeg(0, 0, Integer.MAX_VALUE));
    }

    private static void addLegToAFullTraverse() {
        AcreOffice x = new AcreOffice();
        for (int k = 1; k <= 12; k++) {
            Check.number("P2 leg " + k, x.addLeg(k, -k, k), k);
        }
        Check.badState("P2 leg 13", x, () -> x.addLeg(1, 1, 1));
        Check.badArgument("P2 the argument goes first", x, () -> x.addLeg(1, 1, 0));
        Check.number("P3 makes room", x.takeBack(), 11);
        Check.number("P2 in the room", x.addLeg(1, 1, 1), 12);
    }

    private static void takeBack() {
        AcreOffice x = new AcreOffice();
        Check.badState("P3 no legs", x, x::takeBack);
        x.addLeg(10, 20, 30);
        x.addLeg(1, 2, 3);
        Check.number("P3 one is left", x.takeBack(), 1);
        Check.number("P3 the last one went", x.traverseLength(), 30);
        Check.number("P3 east", x.errorEast(), 10);
        Check.number("P3 north", x.errorNorth(), 20);
        Check.number("P3 is an action", x.recordedStates(), 3);
        Check.number("P3 none is left", x.takeBack(), 0);
        Check.badState("P3 no legs again", x, x::takeBack);
        x.addLeg(4, 5, 6);
        Check.number("P3 leaves no trace", x.errorEast(), 4);
    }

    private static void setOrigin() {
        AcreOffice x = new AcreOffice();
        Check.number("P4 no legs", x.setOrigin(50000, -50000), 0);
        Check.number("P4 east", x.adjustedEast(0), 50000);
        Check.number("P4 north", x.adjustedNorth(0), -50000);
        x.addLeg(30, 40, 50);
        x.addLeg(-30, -40, 50);
        Check.number("P4 with legs", x.setOrigin(-50000, 50000), 2);
        Check.number("P4 legs stay", x.adjustedEast(1), -49970);
        Check.number("P4 legs stay", x.adjustedNorth(1), 50040);
        Check.number("P17 less the origin", x.errorEast(), 0);
        Check.number("P4 is an action", x.recordedStates(), 4);
        Check.badArgument("P4 east above", x, () -> x.setOrigin(50001, 0));
        Check.badArgument("P4 east below", x, () -> x.setOrigin(-50001, 0));
        Check.badArgument("P4 north above", x, () -> x.setOrigin(0, 50001));
        Check.badArgument("P4 north below", x, () -> x.setOrigin(0, -50001));
        Check.badArgument("P4 least int", x, () -> x.setOrigin(Integer.MIN_VALUE, 0));
    }

    private static void lengthAndErrors() {
        AcreOffice x = new AcreOffice();
        x.setOrigin(777, -888);
        x.addLeg(100, -7, 20000);
        x.addLeg(-150, 9, 20000);
        x.addLeg(20, -30, 1);
        Check.number("P16", x.traverseLength(), 40001);
        Check.number("P17", x.errorEast(), -30);
        Check.number("P18", x.errorNorth(), -28);
    }

    private static void closeness() {
        isClose("one east", true, 1, 0, 200);
        isClose("one east, a link less", false, 1, 0, 199);
        isClose("one west", true, -1, 0, 200);
        isClose("one west, a link less", false, -1, 0, 199);
        isClose("one south", true, 0, -1, 200);
        isClose("one south, a link less", false, 0, -1, 199);
        isClose("the sizes are added", false, 1, -1, 399);
        isClose("the sizes are added", true, 1, -1, 400);
        isClose("no error", true, 0, 0, 1);
        isClose("far off", false, 9999, -9999, 20000);
    }

    private static void isClose(String what, boolean due, int east, int north, int length) {
        AcreOffice x = new AcreOffice();
        x.addLeg(east, north, length);
        Check.same("P19 " + what, x.isClose(), due);
    }

    private static void adjustedCorners() {
        AcreOffice x = new AcreOffice();
        x.setOrigin(10, 20);
        x.addLeg(50, 60, 1);
        x.addLeg(-51, -59, 2);
        // error -1 east and 1 north; shares -1/3 and 1/3, rounded down to -1 and 0
        Check.number("P20 corner 0", x.adjustedEast(0), 10);
        Check.number("P21 corner 0", x.adjustedNorth(0), 20);
        Check.number("P20 a share below 0 is rounded down", x.adjustedEast(1), 61);
        Check.number("P21 a share above 0 is rounded down", x.adjustedNorth(1), 80);
        Check.number("P20 the last corner is the origin", x.adjustedEast(2), 10);
        Check.number("P21 the last corner is the origin", x.adjustedNorth(2), 20);
        x.addLeg(8, -8, 3);
        // error 7 and -7, lengths 1, 2, 3: shares 7/6 and 21/6; -7/6 and -21/6
        Check.number("P20 corner 1 of 3", x.adjustedEast(1), 10 + 50 - 1);
        Check.number("P20 corner 2 of 3", x.adjustedEast(2), 10 - 1 - 3);
        Check.number("P21 corner 1 of 3", x.adjustedNorth(1), 20 + 60 + 2);
        Check.number("P21 corner 2 of 3", x.adjustedNorth(2), 20 + 1 + 4);
    }

    private static void adjustedCornersOfOneLeg() {
        AcreOffice x = new AcreOffice();
        x.setOrigin(3, -4);
        x.addLeg(50, -60, 1);
        Check.number("P20 the least length, corner 0", x.adjustedEast(0), 3);
        Check.number("P20 the least length, corner 1", x.adjustedEast(1), 3);
        Check.number("P21 the least length, corner 1", x.adjustedNorth(1), -4);
    }

    private static void adjustedCornersFarFromClose() {
        AcreOffice x = new AcreOffice();
        for (int k = 0; k < 12; k++) {
            x.addLeg(9999, -9999, 20000);
        }
        Check.number("P17 greatest", x.errorEast(), 119988);
        Check.number("P18 least", x.errorNorth(), -119988);
        Check.number("P16 greatest", x.traverseLength(), 240000);
        for (int k = 0; k <= 12; k++) {
            Check.number("P20 greatest share, corner " + k, x.adjustedEast(k), 0);
            Check.number("P21 greatest share, corner " + k, x.adjustedNorth(k), 0);
        }
    }

    private static void adjustedCornersThatAreNot() {
        AcreOffice x = new AcreOffice();
        x.addLeg(1, 1, 1);
        Check.noField("P20 below", x, () -> x.adjustedEast(-1));
        Check.noField("P20 above", x, () -> x.adjustedEast(2));
        Check.noField("P20 greatest int", x, () -> x.adjustedEast(Integer.MAX_VALUE));
        Check.noField("P21 below", x, () -> x.adjustedNorth(-1));
        Check.noField("P21 above", x, () -> x.adjustedNorth(2));
        Check.noField("P21 least int", x, () -> x.adjustedNorth(Integer.MIN_VALUE));
        x.takeBack();
        Check.noField("P20 after taking back", x, () -> x.adjustedEast(1));
        Check.noField("P21 after taking back", x, () -> x.adjustedNorth(1));
    }
}
