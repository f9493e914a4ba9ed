/** Promises 12 to 14 and 39: undo, the snapshot, and what is recorded. */
public final class UndoTest {
    public static void main(String[] args) {
        undoEachAction();
        latestFour();
        undoAndGoOn();
        eachActionGoesOnFromHere();
        refusedCallsRecordNothing();
        askingRecordsNothing();
        snapshot();
        snapshotIsReplaced();
        snapshotIsNoState();
        restoreIsAnAction();
        fieldsComeBackWhole();
        Check.finish("UndoTest");
    }

    private static AcreOffice withField() {
        AcreOffice x = new AcreOffice();
        Check.keepCorners(x, 7, 8, 107, 8, 7, 108);
        x.addLeg(50, 0, 50);
        return x;
    }

    private static void comesBack(String what, AcreOffice x, Check.Call action) {
        String before = Check.stateOf(x);
        int recorded = x.recordedStates();
        action.run();
        Check.number("P39 " + what, x.recordedStates(), Math.min(4, recorded + 1));
        Check.number("P12 " + what, x.undo(), Math.min(3, recorded));
        Check.same("P12 state, " + what, Check.stateOf(x), before);
    }

    private static void undoEachAction() {
        AcreOffice empty = new AcreOffice();
        comesBack("first leg", empty, () -> empty.addLeg(1, 2, 3));
        Check.badState("P12 nothing is left", empty, empty::undo);
        AcreOffice x = withField();
        comesBack("addLeg", x, () -> x.addLeg(1, 2, 3));
        comesBack("takeBack", x, x::takeBack);
        comesBack("setOrigin", x, () -> x.setOrigin(-9, 9));
        comesBack("setOrigin to where it is", x, () -> x.setOrigin(7, 8));
        comesBack("giveUp", x, () -> x.giveUp(0));
        x.addLeg(0, 50, 50);
        x.addLeg(-50, -50, 50);
        comesBack("keep", x, x::keep);
        Check.type(x, "k;g0;e1n1l1");
        comesBack("carryOut", x, x::carryOut);
        x.takeSnapshot();
        x.takeBack();
        comesBack("restoreSnapshot", x, x::restoreSnapshot);
    }

    private static void latestFour() {
        AcreOffice x = new AcreOffice();
        for (int k = 1; k <= 9; k++) {
            x.addLeg(k, 0, 1);
            Check.number("P39 after " + k, x.recordedStates(), Math.min(4, k));
        }
        for (int left = 3; left >= 0; left--) {
            Check.number("P12 left", x.undo(), left);
            Check.number("P39 left", x.recordedStates(), left);
            Check.number("P12 legs", x.legs(), 5 + left);
        }
        Check.badState("P12 older ones are not kept", x, x::undo);
        Check.number("P12 five actions stay done", x.errorEast(), 15);
    }

    private static void undoAndGoOn() {
        AcreOffice x = new AcreOffice();
        for (int k = 1; k <= 6; k++) {
            x.addLeg(k, 0, 1);
        }
        x.undo();
        x.undo();
        Check.number("P12 four legs", x.errorEast(), 10);
        x.addLeg(100, 0, 1);
        x.setOrigin(5, 5);
        x.takeBack();
        Check.number("P39 four again", x.recordedStates(), 4);
        x.undo();
        Check.number("P12 the leg is back", x.errorEast(), 110);
        x.undo();
        Check.number("P12 the origin is back", x.adjustedEast(0), 0);
        x.undo();
        Check.number("P12 before the leg", x.errorEast(), 10);
        Check.number("P12 the oldest", x.undo(), 0);
        Check.number("P12 three legs", x.errorEast(), 6);
    }

    /** Ways to have been elsewhere: by an undone action, and by orders that are not carried out. */
    private static void beElsewhere(AcreOffice x, int way) {
        if (way == 0) {
            Check.retype(x, "b;b;b;g0;e77n77l77;e78n78l78");
            x.carryOut();
            x.undo();
        } else if (way == 1) {
            Check.retype(x, "b;b;b;g0;e77n77l77;e78n78l78;g5");
            Check.badState("P11", x, x::carryOut);
        } else {
            Check.retype(x, "b;b;b;g0;e77n77l77;e78n78l78");
            x.impossibleOrder();
        }
    }

    private static void eachActionGoesOnFromHere() {
        for (int way = 0; way < 3; way++) {
            AcreOffice x = withField();
            x.addLeg(0, 40, 50);
            x.addLeg(-50, -40, 50);
            beElsewhere(x, way);
            Check.number("P2 from here", x.addLeg(1, 2, 50), 4);
            Check.number("P17 from here", x.errorEast(), 1);
            beElsewhere(x, way);
            Check.number("P3 from here", x.takeBack(), 3);
            Check.number("P16 from here", x.traverseLength(), 150);
            beElsewhere(x, way);
            Check.number("P4 from here", x.setOrigin(5, 6), 3);
            beElsewhere(x, way);
            Check.number("P5 from here", x.keep(), 1);
            Check.number("P25 from here", x.cornerNorth(1, 2), 46);
            x.addLeg(1, 1, 1);
            x.addLeg(2, 2, 2);
            x.addLeg(3, 3, 3);
            beElsewhere(x, way);
            Check.number("P6 from here", x.giveUp(0), 1);
            Check.number("P15 from here", x.legs(), 3);
            Check.number("P24 from here", x.cornerEast(0, 0), 5);
            beElsewhere(x, way);
            Check.number("P13 from here", x.takeSnapshot(), 1);
            Check.number("P14 from here", x.restoreSnapshot(), 1);
            Check.number("P15 from the snapshot", x.legs(), 3);
        }
    }

    private static void refusedCallsRecordNothing() {
        AcreOffice x = withField();
        x.undo();
        x.undo();
        int recorded = x.recordedStates();
        Check.badArgument("P39 addLeg", x, () -> x.addLeg(0, 0, 0));
        Check.badArgument("P39 setOrigin", x, () -> x.setOrigin(0, 60000));
        Check.badState("P39 keep", x, () -> new AcreOffice().keep());
        Check.noField("P39 giveUp", x, () -> x.giveUp(5));
        Check.badState("P39 carryOut", x, x::carryOut);
        Check.badState("P39 restoreSnapshot", x, x::restoreSnapshot);
        Check.number("P39 nothing is recorded", x.recordedStates(), recorded);
        AcreOffice none = new AcreOffice();
        Check.badState("P39 takeBack", none, none::takeBack);
        Check.badState("P39 keep", none, none::keep);
        Check.number("P39 none", none.recordedStates(), 0);
    }

    private static void askingRecordsNothing() {
        AcreOffice x = withField();
        x.undo();
        int recorded = x.recordedStates();
        x.leftTurns(0);
        x.sharedSides(0, 0);
        x.largestField();
        x.sheetsFor(0, 10);
        x.scaleFor(0);
        x.type('b');
        x.textError();
        x.impossibleOrder();
        x.clearText();
        x.takeSnapshot();
        Check.number("P39 asking is no action", x.recordedStates(), recorded);
        Check.number("P12 undo is no action", x.undo(), recorded - 1);
    }

    private static void snapshot() {
        AcreOffice x = withField();
        String before = Check.stateOf(x);
        Check.number("P13 one field", x.takeSnapshot(), 1);
        x.giveUp(0);
        x.setOrigin(1, 1);
        x.takeBack();
        Check.number("P14 one field", x.restoreSnapshot(), 1);
        Check.same("P14 the state", Check.stateOf(x), before);
        x.addLeg(9, 9, 9);
        x.restoreSnapshot();
        Check.same("P14 it is kept", Check.stateOf(x), before);
    }

    private static void snapshotIsReplaced() {
        AcreOffice x = withField();
        x.takeSnapshot();
        x.giveUp(0);
        Check.number("P13 no fields", x.takeSnapshot(), 0);
        x.undo();
        Check.number("P14 the later one", x.restoreSnapshot(), 0);
        AcreOffice empty = new AcreOffice();
        Check.number("P13 of an empty office", empty.takeSnapshot(), 0);
        empty.addLeg(1, 1, 1);
        Check.number("P14 of an empty office", empty.restoreSnapshot(), 0);
        Check.number("P14 no legs", empty.legs(), 0);
    }

    private static void snapshotIsNoState() {
        AcreOffice x = new AcreOffice();
        x.addLeg(1, 1, 1);
        x.takeSnapshot();
        x.undo();
        Check.number("P14 undo leaves the snapshot", x.restoreSnapshot(), 0);
        Check.number("P14 its leg", x.legs(), 1);
        Check.number("P39 the recorded states are no state", x.recordedStates(), 1);
    }

    private static void restoreIsAnAction() {
        AcreOffice x = new AcreOffice();
        x.takeSnapshot();
        for (int k = 0; k < 6; k++) {
            x.addLeg(1, 1, 1);
        }
        x.restoreSnapshot();
        Check.number("P14 recorded", x.recordedStates(), 4);
        Check.number("P14 undone", x.undo(), 3);
        Check.number("P14 the legs are back", x.legs(), 6);
        x.undo();
        Check.number("P14 and the one before", x.legs(), 5);
    }

    private static void fieldsComeBackWhole() {
        AcreOffice x = new AcreOffice();
        Check.keepCorners(x, 0, 0, 10, 0, 10, 10, 0, 10);
        Check.keepCorners(x, 0, 0, 20, 0, 20, 20);
        Check.keepCorners(x, 0, 0, 30, 0, 35, 15, 30, 30, 0, 30);
        String before = Check.stateOf(x);
        x.takeSnapshot();
        x.giveUp(0);
        x.giveUp(1);
        Check.keepCorners(x, 5, 5, 6, 5, 6, 6);
        x.undo();
        x.restoreSnapshot();
        Check.same("P14 three fields", Check.stateOf(x), before);
        x.giveUp(1);
        x.giveUp(0);
        x.undo();
        x.undo();
        Check.same("P12 three fields", Check.stateOf(x), before);
    }
}
