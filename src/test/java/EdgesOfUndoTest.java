/** The edges of promises 12 to 14 and 39, and of what the Terms say of undo. */
public final class EdgesOfUndoTest {
    public static void main(String[] args) {
        nothingToUndo();
        oneRecordedState();
        fourRecordedStates();
        fifthAction();
        recordedByEachAction();
        recordedByNoOtherCall();
        recordedByNoRefusedCall();
        whatTheStateIs();
        whatTheStateIsNot();
        snapshotAtItsEdges();
        restoreAtItsEdges();
        restoreIsAnAction();
        fullOfficeComesBack();
        theLastCalls();
        Check.finish("EdgesOfUndoTest");
    }

    private static void nothingToUndo() {
        Edge.at("P12 no state is recorded", x -> Edge.badState(x, x::undo));
        Edge.at("P12 no state is recorded any more", x -> {
            x.addLeg(1, 1, 1);
            x.undo();
            Edge.badState(x, x::undo);
            Edge.is(x.recordedStates(), 0);
        });
        Edge.at("P12 nothing is undone behind four", x -> {
            Offices.actions(x, 9);
            for (int left = 3; left >= 0; left--) {
                Edge.is(x.undo(), left);
            }
            Edge.badState(x, x::undo);
        });
        Edge.at("P12 what is undone cannot be undone once more", x -> {
            x.addLeg(1, 1, 1);
            x.addLeg(2, 2, 2);
            x.undo();
            x.undo();
            Edge.is(x.legs(), 0);
            Edge.badState(x, x::undo);
        });
    }

    private static void oneRecordedState() {
        Edge.at("P39 no recorded state", x -> Edge.is(x.recordedStates(), 0));
        Edge.at("P39 one recorded state", x -> {
            x.addLeg(1, 1, 1);
            Edge.is(x.recordedStates(), 1);
        });
        Edge.at("P12 the only recorded state", x -> {
            x.addLeg(1, 1, 1);
            Edge.is(x.undo(), 0);
            Edge.is(x.legs(), 0);
        });
    }

    private static void fourRecordedStates() {
        Edge.at("P39 four recorded states", x -> {
            Offices.actions(x, 4);
            Edge.is(x.recordedStates(), 4);
        });
        Edge.at("P12 all of four recorded states", x -> {
            Offices.legs(x, 4);
            for (int left = 3; left >= 0; left--) {
                Edge.is(x.undo(), left);
                Edge.is(x.recordedStates(), left);
                Edge.is(x.legs(), left);
            }
        });
    }

    private static void fifthAction() {
        Edge.at("P39 a fifth action leaves four", x -> {
            Offices.actions(x, 5);
            Edge.is(x.recordedStates(), 4);
        });
        Edge.at("P12 behind a fifth action the first one stays done", x -> {
            Offices.legs(x, 5);
            for (int left = 3; left >= 0; left--) {
                Edge.is(x.undo(), left);
            }
            Edge.is(x.legs(), 1);
            Edge.badState(x, x::undo);
        });
        Edge.at("P12 the latest four are kept after any number of actions", x -> {
            for (int actions = 1; actions <= 12; actions++) {
                x.addLeg(actions, 0, 1);
                Edge.is(x.recordedStates(), Math.min(4, actions));
            }
            for (int left = 3; left >= 0; left--) {
                Edge.is(x.undo(), left);
            }
            Edge.is(x.legs(), 8);
            Edge.is(x.errorEast(), 36);
        });
        Edge.at("P12 undone and done again, over and over", x -> {
            for (int k = 1; k <= 11; k++) {
                x.setOrigin(k, -k);
                x.setOrigin(100, 100);
                x.undo();
                Edge.is(x.adjustedEast(0), k);
                Edge.is(x.recordedStates(), Math.min(k, 4) - (k > 3 ? 1 : 0));
            }
        });
    }

    private static void recorded(String action, Edge.Trial begin, Edge.Trial deed) {
        Edge.at("P39 " + action + " records a state", x -> {
            begin.on(x);
            while (x.recordedStates() > 0) {
                x.undo();
            }
            begin.on(x);
            int before = x.recordedStates();
            deed.on(x);
            Edge.is(x.recordedStates(), Math.min(4, before + 1));
        });
        Edge.at("P12 " + action + " is undone with four recorded states", x -> {
            begin.on(x);
            int originEast = x.adjustedEast(0);
            int originNorth = x.adjustedNorth(0);
            for (int k = 0; k < 5; k++) {
                x.setOrigin(originEast, originNorth);
            }
            String before = Check.stateOf(x);
            deed.on(x);
            Edge.is(x.recordedStates(), 4);
            Edge.is(x.undo(), 3);
            Edge.is(Check.stateOf(x), before);
        });
    }

    private static void recordedByEachAction() {
        recorded("addLeg", x -> x.legs(), x -> x.addLeg(1, 2, 3));
        recorded("takeBack", x -> x.addLeg(1, 2, 3), x -> x.takeBack());
        recorded("setOrigin", x -> x.legs(), x -> x.setOrigin(50000, -50000));
        recorded("setOrigin to where it was", x -> x.legs(), x -> x.setOrigin(0, 0));
        recorded("keep", x -> Offices.closedLegs(x), x -> x.keep());
        recorded("giveUp", x -> Offices.triangles(x, 1), x -> x.giveUp(0));
        recorded("carryOut", x -> Check.retype(x, "e1n2l3;e1n2l3;b"), x -> x.carryOut());
        recorded("restoreSnapshot", x -> x.takeSnapshot(), x -> x.restoreSnapshot());
        recorded("restoreSnapshot of another state", x -> {
            x.takeSnapshot();
            x.addLeg(1, 2, 3);
        }, x -> x.restoreSnapshot());
    }

    private static void silent(String call, Edge.Trial deed) {
        Edge.at("P39 " + call + " records no state", x -> {
            Offices.legs(x, 2);
            deed.on(x);
            Edge.is(x.recordedStates(), 2);
        });
    }

    private static void recordedByNoOtherCall() {
        silent("type", x -> x.type('b'));
        silent("clearText", x -> x.clearText());
        silent("textError", x -> x.textError());
        silent("impossibleOrder", x -> {
            x.type('b');
            x.impossibleOrder();
        });
        silent("takeSnapshot", x -> x.takeSnapshot());
        silent("asking for the traverse", x -> {
            x.legs();
            x.traverseLength();
            x.errorEast();
            x.errorNorth();
            x.isClose();
            x.adjustedEast(0);
            x.adjustedNorth(0);
        });
        Edge.at("P39 asking for a field records no state", x -> {
            Offices.triangles(x, 1);
            x.takeSnapshot();
            while (x.recordedStates() > 0) {
                x.undo();
            }
            x.restoreSnapshot();
            String before = Check.stateOf(x);
            askForField(x);
            Edge.is(x.recordedStates(), 1);
            Edge.is(Check.stateOf(x), before);
        });
        Edge.at("P39 undo records no state", x -> {
            Offices.actions(x, 3);
            x.undo();
            Edge.is(x.recordedStates(), 2);
            x.undo();
            Edge.is(x.recordedStates(), 1);
        });
    }

    private static void askForField(AcreOffice x) {
        x.fields();
        x.cornersOf(0);
        x.cornerEast(0, 0);
        x.cornerNorth(0, 0);
        x.leftTurns(0);
        x.turnsOneWay(0);
        x.sidesEastOf(0, 0, 0);
        x.sharedSides(0, 0);
        x.twiceAreaByCorners(0);
        x.twiceAreaByStrips(0);
        x.acresOf(0);
        x.roodsOf(0);
        x.perchesOf(0);
        x.largestField();
        x.twiceAreaOfAll();
        x.sheetsFor(0, 10);
        x.scaleFor(0);
        x.recordedStates();
    }

    private static void recordedByNoRefusedCall() {
        Edge.at("P39 refused actions record nothing where none is recorded", x -> {
            Edge.badArgument(x, () -> x.addLeg(0, 0, 0));
            Edge.badState(x, x::takeBack);
            Edge.badArgument(x, () -> x.setOrigin(50001, 0));
            Edge.badState(x, x::keep);
            Edge.noSuch(x, () -> x.giveUp(0));
            Edge.badState(x, x::carryOut);
            Edge.badState(x, x::restoreSnapshot);
            Edge.is(x.recordedStates(), 0);
        });
        Edge.at("P39 refused actions drop nothing where four are recorded", x -> {
            Offices.twelveLegs(x);
            Edge.badState(x, () -> x.addLeg(0, 0, 1));
            Edge.badArgument(x, () -> x.setOrigin(0, -50001));
            Edge.badState(x, x::keep);
            Edge.noSuch(x, () -> x.giveUp(0));
            Edge.badState(x, x::carryOut);
            Edge.badState(x, x::restoreSnapshot);
            Edge.is(x.recordedStates(), 4);
            for (int left = 3; left >= 0; left--) {
                Edge.is(x.undo(), left);
                Edge.is(x.legs(), 8 + left);
            }
        });
    }

    private static void whatTheStateIs() {
        Edge.at("P12 the origin is of the state", x -> {
            x.setOrigin(50000, -50000);
            x.setOrigin(1, 1);
            x.undo();
            Edge.is(x.adjustedEast(0), 50000);
            Edge.is(x.adjustedNorth(0), -50000);
            x.undo();
            Edge.is(x.adjustedEast(0), 0);
            Edge.is(x.adjustedNorth(0), 0);
        });
        Edge.at("P12 the legs are of the state", x -> {
            Offices.twelveLegs(x);
            String before = Check.stateOf(x);
            x.takeBack();
            x.addLeg(-1, -1, 1);
            x.undo();
            x.undo();
            Edge.is(Check.stateOf(x), before);
        });
        Edge.at("P12 the fields are of the state", x -> {
            Offices.sixFields(x);
            String before = Check.stateOf(x);
            x.giveUp(0);
            x.giveUp(4);
            x.giveUp(2);
            x.undo();
            x.undo();
            x.undo();
            Edge.is(Check.stateOf(x), before);
        });
        Edge.at("P12 a traverse that was kept comes back", x -> {
            Offices.diamond(x);
            x.undo();
            Edge.is(x.legs(), 12);
            Edge.is(x.fields(), 0);
            Edge.noSuch(x, () -> x.cornersOf(0));
            Edge.is(x.keep(), 0);
        });
    }

    private static void whatTheStateIsNot() {
        Edge.at("P12 the order text is not of the state", x -> {
            x.addLeg(1, 1, 1);
            Check.type(x, Offices.FULL_TEXT);
            x.undo();
            Edge.is(x.clearText(), 80);
            x.addLeg(1, 1, 1);
            x.undo();
            Edge.is(x.clearText(), 0);
        });
        Edge.at("P12 the snapshot is not of the state", x -> {
            x.addLeg(1, 1, 1);
            x.takeSnapshot();
            x.undo();
            Edge.is(x.restoreSnapshot(), 0);
            Edge.is(x.legs(), 1);
        });
        Edge.at("P14 the order text is not of the snapshot", x -> {
            Check.type(x, "b");
            x.takeSnapshot();
            x.clearText();
            x.restoreSnapshot();
            Edge.is(x.clearText(), 0);
            Check.type(x, Offices.FULL_TEXT);
            x.restoreSnapshot();
            Edge.is(x.clearText(), 80);
        });
        Edge.at("P14 the recorded states are not of the snapshot", x -> {
            x.takeSnapshot();
            Offices.actions(x, 3);
            x.restoreSnapshot();
            Edge.is(x.recordedStates(), 4);
            Edge.is(x.undo(), 3);
            Edge.is(x.adjustedEast(0), 2);
        });
    }

    private static void snapshotAtItsEdges() {
        Edge.at("P13 without fields", x -> Edge.is(x.takeSnapshot(), 0));
        Edge.at("P13 with six fields", x -> {
            Offices.sixFields(x);
            Edge.is(x.takeSnapshot(), 6);
        });
        Edge.at("P13 a snapshot is no action", x -> {
            x.takeSnapshot();
            Edge.is(x.recordedStates(), 0);
            Edge.badState(x, x::undo);
        });
        Edge.at("P13 a snapshot with four recorded states", x -> {
            Offices.actions(x, 5);
            x.takeSnapshot();
            Edge.is(x.recordedStates(), 4);
            x.undo();
            Edge.is(x.adjustedEast(0), 3);
        });
        Edge.at("P13 a second snapshot replaces the first", x -> {
            x.addLeg(1, 1, 1);
            x.takeSnapshot();
            x.addLeg(2, 2, 2);
            x.takeSnapshot();
            x.takeBack();
            x.takeBack();
            x.restoreSnapshot();
            Edge.is(x.errorEast(), 3);
        });
        Edge.at("P13 a snapshot does not follow the state", x -> {
            Offices.closedLegs(x);
            x.takeSnapshot();
            x.keep();
            x.setOrigin(9, 9);
            Edge.is(x.restoreSnapshot(), 0);
            Edge.is(x.legs(), 3);
            Edge.is(x.adjustedEast(0), 0);
        });
    }

    private static void restoreAtItsEdges() {
        Edge.at("P14 there is no snapshot", x -> {
            x.addLeg(1, 1, 1);
            Edge.badState(x, x::restoreSnapshot);
        });
        Edge.at("P14 of an empty office", x -> {
            x.takeSnapshot();
            Offices.sixFields(x);
            Offices.twelveLegs(x);
            Edge.is(x.restoreSnapshot(), 0);
            Edge.is(x.legs(), 0);
            Edge.is(x.adjustedEast(0), 0);
        });
        Edge.at("P14 of six fields and a full traverse", x -> {
            Offices.sixFields(x);
            Offices.twelveLegs(x);
            String before = Check.stateOf(x);
            x.takeSnapshot();
            x.giveUp(3);
            x.takeBack();
            Edge.is(x.restoreSnapshot(), 6);
            Edge.is(Check.stateOf(x), before);
            Edge.badState(x, () -> x.addLeg(0, 0, 1));
            Edge.badState(x, x::keep);
        });
        Edge.at("P14 the snapshot is kept", x -> {
            x.addLeg(1, 1, 1);
            x.takeSnapshot();
            for (int k = 0; k < 6; k++) {
                x.addLeg(k, k, 9);
                Edge.is(x.restoreSnapshot(), 0);
                Edge.is(x.legs(), 1);
            }
        });
        Edge.at("P14 what comes after the restoring leaves the snapshot alone", x -> {
            Offices.sixFields(x);
            x.takeSnapshot();
            x.restoreSnapshot();
            x.giveUp(0);
            x.setOrigin(9, 9);
            Edge.is(x.restoreSnapshot(), 6);
            Edge.is(x.cornerEast(0, 0), 0);
        });
    }

    private static void restoreIsAnAction() {
        Edge.at("P14 it is the first action", x -> {
            x.takeSnapshot();
            x.restoreSnapshot();
            Edge.is(x.recordedStates(), 1);
            Edge.is(x.undo(), 0);
        });
        Edge.at("P14 it is undone", x -> {
            x.takeSnapshot();
            Offices.twelveLegs(x);
            x.restoreSnapshot();
            Edge.is(x.recordedStates(), 4);
            Edge.is(x.undo(), 3);
            Edge.is(x.legs(), 12);
            x.undo();
            Edge.is(x.legs(), 11);
        });
    }

    private static void fullOfficeComesBack() {
        Edge.at("P12 six fields of twelve corners and a full traverse", x -> {
            for (int f = 0; f < 6; f++) {
                Offices.diamond(x);
            }
            Offices.twelveFarLegs(x);
            String before = Check.stateOf(x);
            x.giveUp(0);
            x.undo();
            Edge.is(Check.stateOf(x), before);
        });
        Edge.at("P12 a field where another one was kept and undone", x -> {
            Offices.diamond(x);
            x.undo();
            for (int k = 0; k < 12; k++) {
                x.takeBack();
            }
            Offices.triangles(x, 1);
            Edge.is(x.cornersOf(0), 3);
            Edge.is(x.twiceAreaByCorners(0), 10000);
        });
    }

    /** An office is used for at most 512 calls; up to the last one it answers as ever. */
    private static void theLastCalls() {
        Edge.at("P39 the 512th call", x -> {
            for (int k = 0; k < 85; k++) {
                x.addLeg(k, -k, 1);
                x.takeBack();
                x.setOrigin(k, -k);
                x.takeSnapshot();
                x.restoreSnapshot();
                x.undo();
            }
            Edge.is(x.adjustedEast(0), 84);
            Edge.is(x.recordedStates(), 3);
        });
    }
}
