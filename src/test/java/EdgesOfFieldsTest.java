/** The edges of promises 5, 6 and 22 to 29, and of what the Terms say of fields. */
public final class EdgesOfFieldsTest {
    public static void main(String[] args) {
        legsToKeep();
        closenessToKeep();
        areaToKeep();
        fieldsToKeep();
        traverseAfterKeep();
        giveUp();
        giveUpOfSix();
        numberOfFields();
        numberOfCorners();
        cornersOfFields();
        cornersThatAreNot();
        leftTurns();
        turnsOneWay();
        pointRange();
        heightsOfPoints();
        pointsOnSides();
        firstExceptionOfSidesEastOf();
        sharedSides();
        sharedSidesOfNoField();
        Check.finish("EdgesOfFieldsTest");
    }

    private static void legsToKeep() {
        Edge.at("P5 no legs", x -> Edge.badState(x, x::keep));
        Edge.at("P5 one leg", x -> {
            x.addLeg(0, 0, 1);
            Edge.badState(x, x::keep);
        });
        Edge.at("P5 two legs", x -> {
            x.addLeg(100, 0, 100);
            x.addLeg(-100, 0, 100);
            Edge.badState(x, x::keep);
        });
        Edge.at("P5 three legs", x -> {
            Offices.closedLegs(x);
            Edge.is(x.keep(), 0);
            Edge.is(x.cornersOf(0), 3);
        });
        Edge.at("P5 twelve legs", x -> {
            Edge.is(Offices.diamond(x), 0);
            Edge.is(x.cornersOf(0), 12);
        });
    }

    private static void closenessToKeep() {
        Edge.at("P5 just close", x -> {
            x.addLeg(100, 0, 100);
            x.addLeg(0, 100, 100);
            x.addLeg(-100, -101, 1);
            Edge.is(x.errorNorth(), -1);
            Edge.is(x.traverseLength(), 201);
            Edge.is(x.keep(), 0);
        });
        Edge.at("P5 just 200 times the error", x -> {
            x.addLeg(100, 0, 100);
            x.addLeg(0, 100, 99);
            x.addLeg(-101, -100, 1);
            Edge.is(x.keep(), 0);
        });
        Edge.at("P5 just not close", x -> {
            x.addLeg(100, 0, 99);
            x.addLeg(0, 100, 99);
            x.addLeg(-101, -100, 1);
            Edge.badState(x, x::keep);
        });
        Edge.at("P5 an error in both parts is just not close", x -> {
            x.addLeg(100, 0, 199);
            x.addLeg(0, 100, 199);
            x.addLeg(-101, -99, 1);
            Edge.badState(x, x::keep);
            x.takeBack();
            x.addLeg(-101, -99, 2);
            Edge.is(x.keep(), 0);
        });
    }

    private static void areaToKeep() {
        Edge.at("P5 all corners in one place", x -> {
            x.addLeg(0, 0, 1);
            x.addLeg(0, 0, 1);
            x.addLeg(0, 0, 1);
            Edge.badState(x, x::keep);
        });
        Edge.at("P5 all corners in one line", x -> {
            x.addLeg(300, 600, 1);
            x.addLeg(-100, -200, 1);
            x.addLeg(-200, -400, 1);
            Edge.badState(x, x::keep);
        });
        Edge.at("P5 two loops whose areas are one another's opposite", x -> {
            x.addLeg(100, 0, 1);
            x.addLeg(-100, 100, 1);
            x.addLeg(100, 0, 1);
            x.addLeg(-100, -100, 1);
            Edge.badState(x, x::keep);
        });
        Edge.at("P5 an area of 0 that twice is 1", x -> {
            Offices.triangle(x, 1, 1);
            Edge.is(x.fields(), 1);
            Edge.is(x.twiceAreaByCorners(0), 1);
        });
        Edge.at("P5 the corners have no area until they are adjusted", x -> {
            x.addLeg(100, 0, 100);
            x.addLeg(-50, 0, 50);
            x.addLeg(-50, -1, 50);
            Edge.is(x.keep(), 0);
            Edge.is(x.twiceAreaByCorners(0), 50);
        });
        Edge.at("P5 the corners have an area until they are adjusted", x -> {
            x.addLeg(100, 1, 200);
            x.addLeg(-50, 0, 100);
            x.addLeg(-50, 1, 100);
            Edge.badState(x, x::keep);
        });
    }

    private static void fieldsToKeep() {
        Edge.at("P5 the first field", x -> {
            Offices.closedLegs(x);
            Edge.is(x.keep(), 0);
        });
        Edge.at("P5 the sixth field", x -> {
            Offices.triangles(x, 5);
            Offices.closedLegs(x);
            Edge.is(x.keep(), 5);
            Edge.is(x.fields(), 6);
        });
        Edge.at("P5 a seventh field", x -> {
            Offices.sixFields(x);
            Offices.closedLegs(x);
            Edge.badState(x, x::keep);
        });
        Edge.at("P5 there is room again when one of six is given up", x -> {
            Offices.sixFields(x);
            Offices.closedLegs(x);
            x.giveUp(0);
            Edge.is(x.keep(), 5);
        });
        Edge.at("P5 six fields of twelve corners", x -> {
            for (int f = 0; f < 6; f++) {
                Edge.is(Offices.diamond(x), f);
            }
            Edge.is(x.cornerEast(5, 11), -9999);
            Edge.is(x.cornerNorth(0, 6), 59994);
        });
        Edge.at("P5 six fields and nothing to keep", x -> {
            Offices.sixFields(x);
            Edge.badState(x, x::keep);
        });
    }

    private static void traverseAfterKeep() {
        Edge.at("P5 no legs then", x -> {
            Offices.diamond(x);
            Edge.is(x.legs(), 0);
            Edge.is(x.traverseLength(), 0);
            Edge.noSuch(x, () -> x.adjustedEast(1));
            Edge.noSuch(x, () -> x.adjustedNorth(12));
        });
        Edge.at("P5 the origin stays", x -> {
            x.setOrigin(50000, -50000);
            Offices.closedLegs(x);
            x.keep();
            Edge.is(x.adjustedEast(0), 50000);
            Edge.is(x.adjustedNorth(0), -50000);
        });
        Edge.at("P5 the same traverse cannot be kept twice", x -> {
            Offices.closedLegs(x);
            x.keep();
            Edge.badState(x, x::keep);
        });
        Edge.at("P5 the corners are the adjusted ones but the last", x -> {
            x.setOrigin(50000, 50000);
            x.addLeg(9999, 0, 20000);
            x.addLeg(0, 9999, 20000);
            x.addLeg(-9999, -9998, 20000);
            // an error of 1 to the north, shares 0, 1/3 and 2/3
            x.keep();
            Edge.is(x.cornerEast(0, 0), 50000);
            Edge.is(x.cornerNorth(0, 1), 50000);
            Edge.is(x.cornerNorth(0, 2), 59999);
            Edge.noSuch(x, () -> x.cornerNorth(0, 3));
        });
    }

    private static void giveUp() {
        Edge.at("P6 no field is there", x -> {
            Edge.noSuch(x, () -> x.giveUp(0));
            Edge.noSuch(x, () -> x.giveUp(-1));
        });
        Edge.at("P6 the only field", x -> {
            Offices.triangles(x, 1);
            Edge.is(x.giveUp(0), 0);
            Edge.noSuch(x, () -> x.giveUp(0));
        });
        Edge.at("P6 the number after the last one", x -> {
            Offices.triangles(x, 3);
            Edge.noSuch(x, () -> x.giveUp(3));
            Edge.is(x.giveUp(2), 2);
            Edge.noSuch(x, () -> x.giveUp(2));
        });
        Edge.at("P6 the ends of int", x -> {
            Offices.sixFields(x);
            Edge.noSuch(x, () -> x.giveUp(Integer.MIN_VALUE));
            Edge.noSuch(x, () -> x.giveUp(Integer.MAX_VALUE));
        });
        Edge.at("P6 the traverse stays", x -> {
            Offices.triangles(x, 1);
            Offices.twelveLegs(x);
            x.giveUp(0);
            Edge.is(x.legs(), 12);
        });
    }

    private static String firstEasts(AcreOffice x) {
        StringBuilder easts = new StringBuilder();
        int fields = x.fields();
        for (int f = 0; f < fields; f++) {
            easts.append(x.cornerEast(f, 0));
        }
        return easts.toString();
    }

    private static void giveUpOfSix() {
        Edge.at("P6 the first of six", x -> {
            Offices.sixFields(x);
            Edge.is(x.giveUp(0), 5);
            Edge.is(firstEasts(x), "12345");
        });
        Edge.at("P6 one amid six", x -> {
            Offices.sixFields(x);
            Edge.is(x.giveUp(3), 5);
            Edge.is(firstEasts(x), "01245");
        });
        Edge.at("P6 the last of six", x -> {
            Offices.sixFields(x);
            Edge.is(x.giveUp(5), 5);
            Edge.is(firstEasts(x), "01234");
        });
        Edge.at("P6 just outside of six", x -> {
            Offices.sixFields(x);
            Edge.noSuch(x, () -> x.giveUp(-1));
            Edge.noSuch(x, () -> x.giveUp(6));
        });
        Edge.at("P6 all six", x -> {
            Offices.sixFields(x);
            for (int left = 5; left >= 0; left--) {
                Edge.is(x.giveUp(0), left);
            }
            Edge.noSuch(x, () -> x.giveUp(0));
        });
        Edge.at("P6 a smaller field in the place of a greater one", x -> {
            Offices.diamond(x);
            x.giveUp(0);
            Check.keepCorners(x, 100, 100, 100, 200, 200, 200);
            Edge.is(x.leftTurns(0), 0);
            Edge.yes(x.turnsOneWay(0));
            Edge.is(x.sidesEastOf(0, 99, 150), 2);
            Edge.is(x.sharedSides(0, 0), 3);
            Edge.is(x.twiceAreaByCorners(0), 10000);
            Edge.is(x.twiceAreaByStrips(0), 10000);
            Edge.is(x.sheetsFor(0, 10), 1);
        });
        Edge.at("P6 behind an undone action and behind a question", x -> {
            Offices.triangles(x, 2);
            Check.type(x, "g0;g0");
            x.giveUp(1);
            x.undo();
            Edge.is(x.giveUp(0), 1);
            x.undo();
            x.impossibleOrder();
            Edge.is(x.giveUp(0), 1);
            Edge.is(x.cornerEast(0, 0), 1);
        });
        Edge.at("P6 fields of more and of fewer corners change places", x -> {
            Offices.triangles(x, 1);
            x.setOrigin(0, 0);
            Offices.diamond(x);
            Offices.box(x, 10, 10);
            x.giveUp(0);
            Edge.is(x.cornersOf(0), 12);
            Edge.is(x.cornersOf(1), 4);
            x.giveUp(0);
            Edge.is(x.cornersOf(0), 4);
            Edge.noSuch(x, () -> x.cornerEast(0, 4));
        });
    }

    private static void numberOfFields() {
        Edge.at("P22 no fields", x -> Edge.is(x.fields(), 0));
        Edge.at("P22 one field", x -> {
            Offices.triangles(x, 1);
            Edge.is(x.fields(), 1);
        });
        Edge.at("P22 six fields", x -> {
            Offices.sixFields(x);
            Edge.is(x.fields(), 6);
        });
        Edge.at("P22 six fields and a refused seventh", x -> {
            Offices.sixFields(x);
            Offices.closedLegs(x);
            Edge.badState(x, x::keep);
            Edge.is(x.fields(), 6);
        });
    }

    private static void numberOfCorners() {
        Edge.at("P23 three corners", x -> {
            Offices.triangles(x, 1);
            Edge.is(x.cornersOf(0), 3);
        });
        Edge.at("P23 twelve corners", x -> {
            Offices.diamond(x);
            Edge.is(x.cornersOf(0), 12);
        });
        Edge.at("P23 corners in one place and in one line are counted", x -> {
            Check.keepCorners(x, 0, 0, 0, 0, 50, 0, 100, 0, 0, 100);
            Edge.is(x.cornersOf(0), 5);
        });
        Edge.at("P23 no field at all", x -> Edge.noSuch(x, () -> x.cornersOf(0)));
        Edge.at("P23 just outside of one", x -> {
            Offices.triangles(x, 1);
            Edge.noSuch(x, () -> x.cornersOf(-1));
            Edge.noSuch(x, () -> x.cornersOf(1));
        });
        Edge.at("P23 just outside of six", x -> {
            Offices.sixFields(x);
            Edge.is(x.cornersOf(5), 3);
            Edge.noSuch(x, () -> x.cornersOf(-1));
            Edge.noSuch(x, () -> x.cornersOf(6));
        });
    }

    private static void cornersOfFields() {
        Edge.at("P24 the first and the last corner of three", x -> {
            Offices.triangles(x, 2);
            Edge.is(x.cornerEast(1, 0), 1);
            Edge.is(x.cornerEast(1, 1), 101);
            Edge.is(x.cornerEast(1, 2), 1);
        });
        Edge.at("P25 the first and the last corner of three", x -> {
            Offices.triangles(x, 2);
            Edge.is(x.cornerNorth(1, 0), 0);
            Edge.is(x.cornerNorth(1, 2), 100);
        });
        Edge.at("P24 the farthest corner", x -> {
            x.setOrigin(50000, 50000);
            Offices.diamond(x);
            Edge.is(x.cornerEast(0, 3), 79997);
            Edge.is(x.cornerEast(0, 11), 40001);
        });
        Edge.at("P25 the farthest corner", x -> {
            x.setOrigin(50000, 50000);
            Offices.diamond(x);
            Edge.is(x.cornerNorth(0, 6), 109994);
            Edge.is(x.cornerNorth(0, 11), 59999);
        });
    }

    private static void cornersThatAreNot() {
        Edge.at("P24 no such field", x -> {
            Edge.noSuch(x, () -> x.cornerEast(0, 0));
            Offices.triangles(x, 1);
            Edge.noSuch(x, () -> x.cornerEast(-1, 0));
            Edge.noSuch(x, () -> x.cornerEast(1, 0));
            Edge.noSuch(x, () -> x.cornerEast(Integer.MAX_VALUE, 0));
        });
        Edge.at("P25 no such field", x -> {
            Edge.noSuch(x, () -> x.cornerNorth(0, 0));
            Offices.triangles(x, 1);
            Edge.noSuch(x, () -> x.cornerNorth(-1, 0));
            Edge.noSuch(x, () -> x.cornerNorth(1, 0));
            Edge.noSuch(x, () -> x.cornerNorth(Integer.MAX_VALUE, 0));
        });
        Edge.at("P24 no such corner", x -> {
            Offices.triangles(x, 1);
            Edge.noSuch(x, () -> x.cornerEast(0, -1));
            Edge.noSuch(x, () -> x.cornerEast(0, 3));
            Edge.noSuch(x, () -> x.cornerEast(0, Integer.MIN_VALUE));
            Edge.noSuch(x, () -> x.cornerEast(0, Integer.MAX_VALUE));
        });
        Edge.at("P25 no such corner", x -> {
            Offices.triangles(x, 1);
            Edge.noSuch(x, () -> x.cornerNorth(0, -1));
            Edge.noSuch(x, () -> x.cornerNorth(0, 3));
            Edge.noSuch(x, () -> x.cornerNorth(0, Integer.MIN_VALUE));
            Edge.noSuch(x, () -> x.cornerNorth(0, Integer.MAX_VALUE));
        });
        Edge.at("P24 neither such a field nor such a corner", x -> {
            Edge.noSuch(x, () -> x.cornerEast(6, 12));
            Edge.noSuch(x, () -> x.cornerNorth(-1, -1));
        });
        Edge.at("P24 a field of twelve corners has no corner 12", x -> {
            Offices.diamond(x);
            Edge.is(x.cornerEast(0, 11), -9999);
            Edge.noSuch(x, () -> x.cornerEast(0, 12));
            Edge.noSuch(x, () -> x.cornerNorth(0, 12));
        });
        Edge.at("P24 just outside of six fields", x -> {
            Offices.sixFields(x);
            Edge.is(x.cornerEast(5, 0), 5);
            Edge.noSuch(x, () -> x.cornerEast(6, 0));
            Edge.noSuch(x, () -> x.cornerNorth(6, 0));
        });
    }

    private static void leftTurns() {
        Edge.at("P26 a turn at every corner, the first and the last too", x -> {
            Offices.triangles(x, 1);
            Edge.is(x.leftTurns(0), 3);
        });
        Edge.at("P26 the least turns", x -> {
            Offices.triangle(x, 1, 1);
            Edge.is(x.leftTurns(0), 3);
            Check.keepCorners(x, 0, 0, 0, 1, 1, 0);
            Edge.is(x.leftTurns(1), 0);
        });
        Edge.at("P26 no turn at any corner", x -> {
            Check.keepCorners(x, 0, 0, 0, 100, 100, 0);
            Edge.is(x.leftTurns(0), 0);
        });
        Edge.at("P26 the only one is at the last corner", x -> {
            Check.keepCorners(x, 0, 100, 0, 0, 100, 0, 100, 100, 50, 50);
            Edge.is(x.leftTurns(0), 4);
            Check.keepCorners(x, 100, 100, 100, 0, 0, 0, 0, 100, 50, 50);
            Edge.is(x.leftTurns(1), 1);
        });
        Edge.at("P26 the only one is at corner 0", x -> {
            Check.keepCorners(x, 50, 50, 100, 100, 100, 0, 0, 0, 0, 100);
            Edge.is(x.leftTurns(0), 1);
        });
        Edge.at("P26 straight on is no turn", x -> {
            Check.keepCorners(x, 50, 0, 100, 0, 0, 100, 0, 0);
            Edge.is(x.leftTurns(0), 3);
        });
        Edge.at("P26 the diamond of twelve corners turns at four", x -> {
            Offices.diamond(x);
            Edge.is(x.leftTurns(0), 4);
        });
        Edge.at("P26 no such field", x -> {
            Edge.noSuch(x, () -> x.leftTurns(0));
            Offices.sixFields(x);
            Edge.is(x.leftTurns(5), 3);
            Edge.noSuch(x, () -> x.leftTurns(-1));
            Edge.noSuch(x, () -> x.leftTurns(6));
        });
    }

    private static void turnsOneWay() {
        Edge.at("P27 to the left alone", x -> {
            Offices.triangles(x, 1);
            Edge.yes(x.turnsOneWay(0));
        });
        Edge.at("P27 to the right alone", x -> {
            Check.keepCorners(x, 0, 0, 0, 100, 100, 0);
            Edge.yes(x.turnsOneWay(0));
        });
        Edge.at("P27 one to the right, at corner 0", x -> {
            Check.keepCorners(x, 50, 50, 0, 100, 0, 0, 100, 0, 100, 100);
            Edge.no(x.turnsOneWay(0));
        });
        Edge.at("P27 one to the left, at the last corner", x -> {
            Check.keepCorners(x, 100, 100, 100, 0, 0, 0, 0, 100, 50, 50);
            Edge.no(x.turnsOneWay(0));
        });
        Edge.at("P27 straight corners turn neither way", x -> {
            Offices.diamond(x);
            Edge.yes(x.turnsOneWay(0));
        });
        Edge.at("P27 no such field", x -> {
            Edge.noSuch(x, () -> x.turnsOneWay(0));
            Offices.sixFields(x);
            Edge.yes(x.turnsOneWay(5));
            Edge.noSuch(x, () -> x.turnsOneWay(-1));
            Edge.noSuch(x, () -> x.turnsOneWay(6));
        });
    }

    private static void pointRange() {
        Edge.at("P28 -200000 is the least east part", x -> {
            x.setOrigin(50000, 0);
            Offices.diamond(x);
            Edge.is(x.sidesEastOf(0, -200000, 20000), 2);
        });
        Edge.at("P28 200000 is the greatest east part", x -> {
            Offices.diamond(x);
            Edge.is(x.sidesEastOf(0, 200000, 20000), 0);
        });
        Edge.at("P28 -200000 is the least north part", x -> {
            Offices.diamond(x);
            Edge.is(x.sidesEastOf(0, 0, -200000), 0);
        });
        Edge.at("P28 200000 is the greatest north part", x -> {
            Offices.diamond(x);
            Edge.is(x.sidesEastOf(0, 0, 200000), 0);
        });
        Edge.at("P28 an east part of -200001", x -> {
            Offices.triangles(x, 1);
            Edge.badArgument(x, () -> x.sidesEastOf(0, -200001, 0));
            Edge.badArgument(x, () -> x.sidesEastOf(0, Integer.MIN_VALUE, 0));
        });
        Edge.at("P28 an east part of 200001", x -> {
            Offices.triangles(x, 1);
            Edge.badArgument(x, () -> x.sidesEastOf(0, 200001, 0));
            Edge.badArgument(x, () -> x.sidesEastOf(0, Integer.MAX_VALUE, 0));
        });
        Edge.at("P28 a north part of -200001", x -> {
            Offices.triangles(x, 1);
            Edge.badArgument(x, () -> x.sidesEastOf(0, 0, -200001));
            Edge.badArgument(x, () -> x.sidesEastOf(0, 0, Integer.MIN_VALUE));
        });
        Edge.at("P28 a north part of 200001", x -> {
            Offices.triangles(x, 1);
            Edge.badArgument(x, () -> x.sidesEastOf(0, 0, 200001));
            Edge.badArgument(x, () -> x.sidesEastOf(0, 0, Integer.MAX_VALUE));
        });
    }

    private static void heightsOfPoints() {
        Edge.at("P28 at the height of the upper ends no side is met", x -> {
            Offices.box(x, 100, 100);
            Edge.is(x.sidesEastOf(0, -1, 100), 0);
            Edge.is(x.sidesEastOf(0, -1, 99), 2);
        });
        Edge.at("P28 at the height of the lower ends the sides are met", x -> {
            Offices.box(x, 100, 100);
            Edge.is(x.sidesEastOf(0, -1, 0), 2);
            Edge.is(x.sidesEastOf(0, -1, -1), 0);
        });
        Edge.at("P28 a side to the east is never met", x -> {
            Offices.box(x, 100, 100);
            Edge.is(x.sidesEastOf(0, 50, 0), 1);
            Edge.is(x.sidesEastOf(0, 50, 100), 0);
        });
        Edge.at("P28 a corner between two heights is met once", x -> {
            Check.keepCorners(x, 0, 0, 100, 50, 0, 100);
            Edge.is(x.sidesEastOf(0, 50, 50), 1);
        });
        Edge.at("P28 a highest corner is met by no side", x -> {
            Check.keepCorners(x, 0, 0, 100, 0, 50, 50);
            Edge.is(x.sidesEastOf(0, 0, 50), 0);
        });
        Edge.at("P28 a lowest corner is met by both sides", x -> {
            Check.keepCorners(x, 0, 50, 50, 0, 100, 50);
            Edge.is(x.sidesEastOf(0, 0, 0), 2);
        });
        Edge.at("P28 the side from the last corner to corner 0 is met", x -> {
            Check.keepCorners(x, 100, 0, 0, 50, 100, 100);
            Edge.is(x.sidesEastOf(0, 50, 50), 1);
        });
        Edge.at("P28 a side of no length is not met", x -> {
            Check.keepCorners(x, 0, 0, 100, 50, 100, 50, 0, 100);
            Edge.is(x.sidesEastOf(0, 50, 50), 1);
            Edge.is(x.sidesEastOf(0, 50, 49), 1);
        });
    }

    private static void pointsOnSides() {
        Edge.at("P28 a side on which the point lies is not to its east", x -> {
            Offices.box(x, 100, 100);
            Edge.is(x.sidesEastOf(0, 100, 50), 0);
            Edge.is(x.sidesEastOf(0, 99, 50), 1);
            Edge.is(x.sidesEastOf(0, 0, 50), 1);
            Edge.is(x.sidesEastOf(0, -1, 50), 2);
        });
        Edge.at("P28 a corner in which the point lies is not to its east", x -> {
            Offices.box(x, 100, 100);
            Edge.is(x.sidesEastOf(0, 0, 0), 1);
            Edge.is(x.sidesEastOf(0, 100, 0), 0);
        });
        Edge.at("P28 a point on a slope, and a link to each side of it", x -> {
            Check.keepCorners(x, 0, 0, 200, 100, 0, 100);
            Edge.is(x.sidesEastOf(0, 99, 50), 1);
            Edge.is(x.sidesEastOf(0, 100, 50), 0);
            Edge.is(x.sidesEastOf(0, 101, 50), 0);
        });
        Edge.at("P28 a slope between two links is not rounded", x -> {
            // at a height of 1 the sides stand at a third and at two thirds of a link
            Check.keepCorners(x, 0, 0, 2, 3, 1, 3);
            Edge.is(x.sidesEastOf(0, 0, 1), 2);
            Edge.is(x.sidesEastOf(0, 1, 1), 0);
            Check.keepCorners(x, 0, 0, -1, 3, -2, 3);
            Edge.is(x.sidesEastOf(1, -1, 1), 2);
            Edge.is(x.sidesEastOf(1, 0, 1), 0);
        });
    }

    private static void firstExceptionOfSidesEastOf() {
        Edge.at("P28 no such field", x -> {
            Edge.noSuch(x, () -> x.sidesEastOf(0, 0, 0));
            Offices.sixFields(x);
            Edge.is(x.sidesEastOf(5, 0, 0), 2);
            Edge.noSuch(x, () -> x.sidesEastOf(-1, 0, 0));
            Edge.noSuch(x, () -> x.sidesEastOf(6, 0, 0));
        });
        Edge.at("P28 no such field goes before a point out of range", x -> {
            Edge.noSuch(x, () -> x.sidesEastOf(0, 200001, 0));
            Offices.triangles(x, 1);
            Edge.noSuch(x, () -> x.sidesEastOf(1, -200001, 0));
            Edge.noSuch(x, () -> x.sidesEastOf(-1, 0, 200001));
            Edge.noSuch(x, () -> x.sidesEastOf(1, 0, -200001));
        });
    }

    private static void sharedSides() {
        Edge.at("P29 no side", x -> {
            Check.keepCorners(x, 0, 0, 100, 0, 0, 100);
            Check.keepCorners(x, 0, 0, 99, 0, 0, 99);
            Edge.is(x.sharedSides(0, 1), 0);
        });
        Edge.at("P29 all sides", x -> {
            Offices.diamond(x);
            Offices.diamond(x);
            Edge.is(x.sharedSides(0, 1), 12);
        });
        Edge.at("P29 all sides of the field itself", x -> {
            Offices.diamond(x);
            Edge.is(x.sharedSides(0, 0), 12);
        });
        Edge.at("P29 the last side of the one is the last of the other", x -> {
            Check.keepCorners(x, 0, 0, 50, 50, 100, 0);
            Check.keepCorners(x, 0, 0, 50, -50, 100, 0);
            Edge.is(x.sharedSides(0, 1), 1);
            Edge.is(x.sharedSides(1, 0), 1);
        });
        Edge.at("P29 the last side of the one, the other way, is the last of the other", x -> {
            Check.keepCorners(x, 0, 0, 50, 50, 100, 0);
            Check.keepCorners(x, 100, 0, 50, -50, 0, 0);
            Edge.is(x.sharedSides(0, 1), 1);
            Edge.is(x.sharedSides(1, 0), 1);
        });
        Edge.at("P29 in whichever direction", x -> {
            Check.keepCorners(x, 0, 0, 100, 0, 0, 100);
            Check.keepCorners(x, 0, 100, 100, 0, 0, 0);
            Edge.is(x.sharedSides(0, 1), 3);
            Edge.is(x.sharedSides(1, 0), 3);
        });
        Edge.at("P29 the corners alone are no side", x -> {
            Check.keepCorners(x, 0, 0, 100, 0, 100, 100, 0, 100);
            Check.keepCorners(x, 0, 0, 100, 100, 0, 200);
            Edge.is(x.sharedSides(0, 1), 0);
        });
        Edge.at("P29 east and north are not taken for one another", x -> {
            Check.keepCorners(x, 0, 0, 100, 0, 30, 70);
            Check.keepCorners(x, 0, 0, 0, 100, 60, 80);
            Edge.is(x.sharedSides(0, 1), 0);
        });
    }

    private static void sharedSidesOfNoField() {
        Edge.at("P29 no such first field", x -> {
            Offices.sixFields(x);
            Edge.noSuch(x, () -> x.sharedSides(-1, 0));
            Edge.noSuch(x, () -> x.sharedSides(6, 0));
        });
        Edge.at("P29 no such other field", x -> {
            Offices.sixFields(x);
            Edge.is(x.sharedSides(5, 5), 3);
            Edge.noSuch(x, () -> x.sharedSides(0, -1));
            Edge.noSuch(x, () -> x.sharedSides(0, 6));
        });
        Edge.at("P29 neither field is there", x -> {
            Edge.noSuch(x, () -> x.sharedSides(0, 0));
            Edge.noSuch(x, () -> x.sharedSides(Integer.MIN_VALUE, Integer.MAX_VALUE));
        });
    }
}
