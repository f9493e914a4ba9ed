/** The edges of promises 1 to 4 and 15 to 21, and of what the Terms say of traverses. */
public final class EdgesOfTraverseTest {
    public static void main(String[] args) {
        newOffice();
        newOfficeRefuses();
        legParts();
        legPartsOutOfRange();
        legLengths();
        numberOfLegs();
        firstExceptionOfAddLeg();
        takeBack();
        originRange();
        originWithLegs();
        lengthAndErrors();
        closeness();
        closenessOfFullTraverse();
        cornersOfEmptyTraverse();
        cornersOfFullTraverse();
        cornersThatAreNot();
        shares();
        Check.finish("EdgesOfTraverseTest");
    }

    private static void newOffice() {
        Edge.at("P1 a new office has no legs", x -> Edge.is(x.legs(), 0));
        Edge.at("P1 a new office has no fields", x -> Edge.is(x.fields(), 0));
        Edge.at("P1 no state is recorded of a new office", x -> Edge.is(x.recordedStates(), 0));
        Edge.at("P1 its origin is 0 to the east", x -> Edge.is(x.adjustedEast(0), 0));
        Edge.at("P1 its origin is 0 to the north", x -> Edge.is(x.adjustedNorth(0), 0));
        Edge.at("P1 its order text is empty", x -> Edge.is(x.clearText(), 0));
        Edge.at("P1 NONE is -1", x -> Edge.is(AcreOffice.NONE, -1));
        Edge.at("P1 offices have nothing in common", x -> {
            AcreOffice other = new AcreOffice();
            Offices.closedLegs(other);
            other.keep();
            other.setOrigin(7, 7);
            other.type('b');
            other.takeSnapshot();
            Edge.is(Check.pictureOf(x), Check.pictureOf(new AcreOffice()));
            Edge.badState(x, x::restoreSnapshot);
        });
    }

    private static void newOfficeRefuses() {
        Edge.at("P1 a new office has no leg to take back", x -> Edge.badState(x, x::takeBack));
        Edge.at("P1 a new office has nothing to keep", x -> Edge.badState(x, x::keep));
        Edge.at("P1 a new office has no field to give up", x -> Edge.noSuch(x, () -> x.giveUp(0)));
        Edge.at("P1 a new office has no valid text", x -> Edge.badState(x, x::impossibleOrder));
        Edge.at("P1 a new office has no orders to carry out", x -> Edge.badState(x, x::carryOut));
        Edge.at("P1 a new office has nothing to undo", x -> Edge.badState(x, x::undo));
        Edge.at("P1 a new office has no snapshot", x -> Edge.badState(x, x::restoreSnapshot));
    }

    private static void legParts() {
        Edge.at("P2 -9999 is the least east part", x -> {
            Edge.is(x.addLeg(-9999, 0, 1), 1);
            Edge.is(x.errorEast(), -9999);
        });
        Edge.at("P2 9999 is the greatest east part", x -> {
            Edge.is(x.addLeg(9999, 0, 1), 1);
            Edge.is(x.errorEast(), 9999);
        });
        Edge.at("P2 -9999 is the least north part", x -> {
            Edge.is(x.addLeg(0, -9999, 1), 1);
            Edge.is(x.errorNorth(), -9999);
        });
        Edge.at("P2 9999 is the greatest north part", x -> {
            Edge.is(x.addLeg(0, 9999, 1), 1);
            Edge.is(x.errorNorth(), 9999);
        });
        Edge.at("P2 a leg may stay where it is", x -> Edge.is(x.addLeg(0, 0, 1), 1));
    }

    private static void legPartsOutOfRange() {
        Edge.at("P2 an east part of -10000", x -> Edge.badArgument(x, () -> x.addLeg(-10000, 0, 1)));
        Edge.at("P2 an east part of 10000", x -> Edge.badArgument(x, () -> x.addLeg(10000, 0, 1)));
        Edge.at("P2 a north part of -10000", x -> Edge.badArgument(x, () -> x.addLeg(0, -10000, 1)));
        Edge.at("P2 a north part of 10000", x -> Edge.badArgument(x, () -> x.addLeg(0, 10000, 1)));
        Edge.at("P2 the ends of int as parts", x -> {
            Edge.badArgument(x, () -> x.addLeg(Integer.MIN_VALUE, 0, 1));
            Edge.badArgument(x, () -> x.addLeg(Integer.MAX_VALUE, 0, 1));
            Edge.badArgument(x, () -> x.addLeg(0, Integer.MIN_VALUE, 1));
            Edge.badArgument(x, () -> x.addLeg(0, Integer.MAX_VALUE, 1));
        });
    }

    private static void legLengths() {
        Edge.at("P2 1 is the least length", x -> {
            Edge.is(x.addLeg(0, 0, 1), 1);
            Edge.is(x.traverseLength(), 1);
        });
        Edge.at("P2 20000 is the greatest length", x -> {
            Edge.is(x.addLeg(0, 0, 20000), 1);
            Edge.is(x.traverseLength(), 20000);
        });
        Edge.at("P2 a length of 0", x -> Edge.badArgument(x, () -> x.addLeg(0, 0, 0)));
        Edge.at("P2 a length of -1", x -> Edge.badArgument(x, () -> x.addLeg(0, 0, -1)));
        Edge.at("P2 a length of 20001", x -> Edge.badArgument(x, () -> x.addLeg(0, 0, 20001)));
        Edge.at("P2 the ends of int as lengths", x -> {
            Edge.badArgument(x, () -> x.addLeg(0, 0, Integer.MIN_VALUE));
            Edge.badArgument(x, () -> x.addLeg(0, 0, Integer.MAX_VALUE));
        });
    }

    private static void numberOfLegs() {
        Edge.at("P2 the first leg", x -> Edge.is(x.addLeg(1, 1, 1), 1));
        Edge.at("P2 the twelfth leg", x -> {
            Offices.legs(x, 11);
            Edge.is(x.addLeg(1, 1, 1), 12);
        });
        Edge.at("P2 a thirteenth leg", x -> {
            Offices.twelveLegs(x);
            Edge.badState(x, () -> x.addLeg(1, 1, 1));
        });
        Edge.at("P2 there is room again when a leg is taken back", x -> {
            Offices.twelveLegs(x);
            x.takeBack();
            Edge.is(x.addLeg(1, 1, 1), 12);
        });
        Edge.at("P2 there is room again when the traverse is kept", x -> {
            Offices.diamond(x);
            Edge.is(x.addLeg(1, 1, 1), 1);
        });
    }

    private static void firstExceptionOfAddLeg() {
        Edge.at("P2 out of range goes before a full traverse", x -> {
            Offices.twelveLegs(x);
            Edge.badArgument(x, () -> x.addLeg(-10000, 0, 1));
            Edge.badArgument(x, () -> x.addLeg(10000, 0, 1));
            Edge.badArgument(x, () -> x.addLeg(0, -10000, 1));
            Edge.badArgument(x, () -> x.addLeg(0, 10000, 1));
            Edge.badArgument(x, () -> x.addLeg(0, 0, 0));
            Edge.badArgument(x, () -> x.addLeg(0, 0, 20001));
        });
        Edge.at("P2 the ends of the ranges do not fit into a full traverse", x -> {
            Offices.twelveLegs(x);
            Edge.badState(x, () -> x.addLeg(-9999, 9999, 1));
            Edge.badState(x, () -> x.addLeg(9999, -9999, 20000));
        });
    }

    private static void takeBack() {
        Edge.at("P3 no leg is there", x -> Edge.badState(x, x::takeBack));
        Edge.at("P3 the only leg", x -> {
            x.addLeg(5, 6, 7);
            Edge.is(x.takeBack(), 0);
            Edge.is(x.traverseLength(), 0);
            Edge.badState(x, x::takeBack);
        });
        Edge.at("P3 the twelfth leg", x -> {
            Offices.twelveLegs(x);
            Edge.is(x.takeBack(), 11);
            Edge.is(x.errorEast(), 66);
            Edge.noSuch(x, () -> x.adjustedEast(12));
        });
        Edge.at("P3 a full traverse is taken back to the first leg", x -> {
            Offices.twelveLegs(x);
            for (int left = 11; left >= 0; left--) {
                Edge.is(x.takeBack(), left);
            }
            Edge.badState(x, x::takeBack);
        });
        Edge.at("P3 a traverse that was kept has no leg", x -> {
            Offices.diamond(x);
            Edge.badState(x, x::takeBack);
        });
        Edge.at("P3 the origin stays", x -> {
            x.setOrigin(-3, 4);
            x.addLeg(5, 6, 7);
            x.takeBack();
            Edge.is(x.adjustedEast(0), -3);
            Edge.is(x.adjustedNorth(0), 4);
        });
    }

    private static void originRange() {
        Edge.at("P4 -50000 is the least east part", x -> {
            Edge.is(x.setOrigin(-50000, 0), 0);
            Edge.is(x.adjustedEast(0), -50000);
        });
        Edge.at("P4 50000 is the greatest east part", x -> {
            Edge.is(x.setOrigin(50000, 0), 0);
            Edge.is(x.adjustedEast(0), 50000);
        });
        Edge.at("P4 -50000 is the least north part", x -> {
            Edge.is(x.setOrigin(0, -50000), 0);
            Edge.is(x.adjustedNorth(0), -50000);
        });
        Edge.at("P4 50000 is the greatest north part", x -> {
            Edge.is(x.setOrigin(0, 50000), 0);
            Edge.is(x.adjustedNorth(0), 50000);
        });
        Edge.at("P4 an east part of -50001", x -> Edge.badArgument(x, () -> x.setOrigin(-50001, 0)));
        Edge.at("P4 an east part of 50001", x -> Edge.badArgument(x, () -> x.setOrigin(50001, 0)));
        Edge.at("P4 a north part of -50001", x -> Edge.badArgument(x, () -> x.setOrigin(0, -50001)));
        Edge.at("P4 a north part of 50001", x -> Edge.badArgument(x, () -> x.setOrigin(0, 50001)));
        Edge.at("P4 the ends of int", x -> {
            Edge.badArgument(x, () -> x.setOrigin(Integer.MIN_VALUE, 0));
            Edge.badArgument(x, () -> x.setOrigin(Integer.MAX_VALUE, 0));
            Edge.badArgument(x, () -> x.setOrigin(0, Integer.MIN_VALUE));
            Edge.badArgument(x, () -> x.setOrigin(0, Integer.MAX_VALUE));
        });
    }

    private static void originWithLegs() {
        Edge.at("P4 the legs of a full traverse stay", x -> {
            Offices.twelveLegs(x);
            Edge.is(x.setOrigin(50000, -50000), 12);
            Edge.is(x.legs(), 12);
            Edge.is(x.errorEast(), 78);
            Edge.is(x.errorNorth(), -78);
            Edge.is(x.adjustedEast(12), 50000);
            Edge.is(x.adjustedNorth(12), -50000);
        });
        Edge.at("P4 the origin may be where it was", x -> {
            Edge.is(x.setOrigin(0, 0), 0);
            Edge.is(x.recordedStates(), 1);
        });
        Edge.at("P4 the fields stay", x -> {
            Offices.sixFields(x);
            x.setOrigin(-50000, -50000);
            Edge.is(x.cornerEast(5, 0), 5);
            Edge.is(x.cornerNorth(5, 2), 100);
        });
    }

    private static void lengthAndErrors() {
        Edge.at("P15 an empty traverse", x -> Edge.is(x.legs(), 0));
        Edge.at("P16 the length of an empty traverse", x -> Edge.is(x.traverseLength(), 0));
        Edge.at("P17 the error of an empty traverse far out", x -> {
            x.setOrigin(50000, 50000);
            Edge.is(x.errorEast(), 0);
        });
        Edge.at("P18 the error of an empty traverse far out", x -> {
            x.setOrigin(50000, 50000);
            Edge.is(x.errorNorth(), 0);
        });
        Edge.at("P15 a full traverse", x -> {
            Offices.twelveFarLegs(x);
            Edge.is(x.legs(), 12);
        });
        Edge.at("P16 the greatest length", x -> {
            Offices.twelveFarLegs(x);
            Edge.is(x.traverseLength(), 240000);
        });
        Edge.at("P17 the greatest error", x -> {
            x.setOrigin(50000, 50000);
            Offices.twelveFarLegs(x);
            Edge.is(x.errorEast(), 119988);
        });
        Edge.at("P18 the least error", x -> {
            x.setOrigin(-50000, -50000);
            Offices.twelveFarLegs(x);
            Edge.is(x.errorNorth(), -119988);
        });
    }

    private static boolean closeWith(int east, int north, int length) {
        AcreOffice x = new AcreOffice();
        x.addLeg(east, north, length);
        return x.isClose();
    }

    private static void closeness() {
        Edge.at("P19 an empty traverse is close", x -> Edge.yes(x.isClose()));
        Edge.at("P19 200 times the error is just the length", x -> Edge.yes(closeWith(100, 0, 20000)));
        Edge.at("P19 200 times the error is a link too much", x -> Edge.no(closeWith(100, 0, 19999)));
        Edge.at("P19 an error of 0 and the least length", x -> Edge.yes(closeWith(0, 0, 1)));
        Edge.at("P19 an error of 1 and the least length", x -> Edge.no(closeWith(0, 1, 1)));
        Edge.at("P19 the size of an east part below 0", x -> {
            Edge.yes(closeWith(-100, 0, 20000));
            Edge.no(closeWith(-101, 0, 20000));
        });
        Edge.at("P19 the size of a north part below 0", x -> {
            Edge.yes(closeWith(0, -100, 20000));
            Edge.no(closeWith(0, -101, 20000));
        });
        Edge.at("P19 parts of two signs do not outweigh each other", x -> {
            Edge.no(closeWith(100, -100, 20000));
            Edge.yes(closeWith(50, -50, 20000));
            Edge.no(closeWith(-51, 50, 20000));
        });
        Edge.at("P19 a traverse that was kept is close again", x -> {
            Offices.closedLegs(x);
            x.keep();
            Edge.yes(x.isClose());
        });
    }

    private static void closenessOfFullTraverse() {
        Edge.at("P19 the greatest error is not close", x -> {
            Offices.twelveFarLegs(x);
            Edge.no(x.isClose());
        });
        Edge.at("P19 the greatest length allows an error of 1200", x -> {
            for (int k = 0; k < 12; k++) {
                x.addLeg(k == 0 ? 600 : 0, k == 11 ? -600 : 0, 20000);
            }
            Edge.yes(x.isClose());
            x.takeBack();
            x.addLeg(0, -601, 20000);
            Edge.no(x.isClose());
            x.takeBack();
            x.addLeg(0, -600, 19999);
            Edge.no(x.isClose());
        });
    }

    private static void cornersOfEmptyTraverse() {
        Edge.at("P20 corner 0 of an empty traverse is the origin", x -> {
            x.setOrigin(-50000, 50000);
            Edge.is(x.adjustedEast(0), -50000);
        });
        Edge.at("P21 corner 0 of an empty traverse is the origin", x -> {
            x.setOrigin(-50000, 50000);
            Edge.is(x.adjustedNorth(0), 50000);
        });
        Edge.at("P20 an empty traverse has no corner 1", x -> Edge.noSuch(x, () -> x.adjustedEast(1)));
        Edge.at("P21 an empty traverse has no corner 1", x -> Edge.noSuch(x, () -> x.adjustedNorth(1)));
    }

    private static void cornersOfFullTraverse() {
        Edge.at("P20 corner 0 of a full traverse has no share", x -> {
            x.setOrigin(50000, -50000);
            Offices.twelveFarLegs(x);
            Edge.is(x.adjustedEast(0), 50000);
            Edge.is(x.adjustedNorth(0), -50000);
        });
        Edge.at("P20 corner 12 of a full traverse is the origin", x -> {
            x.setOrigin(50000, 50000);
            Offices.twelveFarLegs(x);
            Edge.is(x.adjustedEast(12), 50000);
        });
        Edge.at("P21 corner 12 of a full traverse is the origin", x -> {
            x.setOrigin(50000, 50000);
            Offices.twelveFarLegs(x);
            Edge.is(x.adjustedNorth(12), 50000);
        });
        Edge.at("P20 a full traverse has no corner 13", x -> {
            Offices.twelveFarLegs(x);
            Edge.noSuch(x, () -> x.adjustedEast(13));
        });
        Edge.at("P21 a full traverse has no corner 13", x -> {
            Offices.twelveFarLegs(x);
            Edge.noSuch(x, () -> x.adjustedNorth(13));
        });
    }

    private static void cornersThatAreNot() {
        Edge.at("P20 there is no corner -1", x -> {
            Edge.noSuch(x, () -> x.adjustedEast(-1));
            Edge.noSuch(x, () -> x.adjustedEast(Integer.MIN_VALUE));
        });
        Edge.at("P21 there is no corner -1", x -> {
            Edge.noSuch(x, () -> x.adjustedNorth(-1));
            Edge.noSuch(x, () -> x.adjustedNorth(Integer.MIN_VALUE));
        });
        Edge.at("P20 the last corner has the number of the legs", x -> {
            Offices.legs(x, 3);
            Edge.is(x.adjustedEast(3), 0);
            Edge.noSuch(x, () -> x.adjustedEast(4));
            Edge.noSuch(x, () -> x.adjustedEast(Integer.MAX_VALUE));
        });
        Edge.at("P21 the last corner has the number of the legs", x -> {
            Offices.legs(x, 3);
            Edge.is(x.adjustedNorth(3), 0);
            Edge.noSuch(x, () -> x.adjustedNorth(4));
            Edge.noSuch(x, () -> x.adjustedNorth(Integer.MAX_VALUE));
        });
    }

    private static void shares() {
        Edge.at("P20 a share between 0 and 1 is rounded down to 0", x -> {
            x.addLeg(0, 0, 1);
            x.addLeg(1, 0, 20000);
            Edge.is(x.adjustedEast(1), 0);
        });
        Edge.at("P20 a share between -1 and 0 is rounded down to -1", x -> {
            x.addLeg(0, 0, 1);
            x.addLeg(-1, 0, 20000);
            Edge.is(x.adjustedEast(1), 1);
        });
        Edge.at("P21 a share between 0 and 1 is rounded down to 0", x -> {
            x.addLeg(0, 0, 20000);
            x.addLeg(0, 1, 1);
            Edge.is(x.adjustedNorth(1), 0);
        });
        Edge.at("P21 a share between -1 and 0 is rounded down to -1", x -> {
            x.addLeg(0, 0, 20000);
            x.addLeg(0, -1, 1);
            Edge.is(x.adjustedNorth(1), 1);
        });
        Edge.at("P20 a share without a rest is not rounded", x -> {
            x.addLeg(0, 0, 5);
            x.addLeg(-8, 8, 15);
            Edge.is(x.adjustedEast(1), 2);
            Edge.is(x.adjustedNorth(1), -2);
        });
        Edge.at("P20 the least length of all legs together", x -> {
            x.setOrigin(3, -4);
            x.addLeg(50, -60, 1);
            Edge.is(x.adjustedEast(1), 3);
            Edge.is(x.adjustedNorth(1), -4);
        });
        Edge.at("P20 an error of 0 has no shares", x -> {
            x.addLeg(9999, -9999, 7);
            x.addLeg(-9999, 9999, 20000);
            Edge.is(x.adjustedEast(1), 9999);
            Edge.is(x.adjustedNorth(1), -9999);
        });
        Edge.at("P20 the greatest error is shared without a wrap-around", x -> {
            for (int k = 0; k < 11; k++) {
                x.addLeg(9999, -9999, 20000);
            }
            x.addLeg(9999, -9999, 19999);
            // the share of corner 11 is 119988 times 220000 by 239999: 109989 and a rest
            Edge.is(x.adjustedEast(1), 0);
            Edge.is(x.adjustedNorth(1), 1);
            Edge.is(x.adjustedEast(11), 0);
            Edge.is(x.adjustedNorth(11), 1);
        });
    }
}
