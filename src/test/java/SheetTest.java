/** Promises 37 and 38: sheets and scales. */
public final class SheetTest {
    public static void main(String[] args) {
        sheets();
        sheetsElsewhere();
        wrongSheets();
        scales();
        noScale();
        fieldsThatAreNot();
        Check.finish("SheetTest");
    }

    private static AcreOffice with(int... corners) {
        AcreOffice x = new AcreOffice();
        Check.keepCorners(x, corners);
        return x;
    }

    private static AcreOffice box(int east, int north) {
        return with(0, 0, east, 0, east, north, 0, north);
    }

    private static void sheets() {
        Check.number("P37 at least one", box(1, 1).sheetsFor(0, 1000), 1);
        Check.number("P37 a full sheet", box(200, 200).sheetsFor(0, 10), 1);
        Check.number("P37 a link more to the east", box(201, 200).sheetsFor(0, 10), 2);
        Check.number("P37 a link more to the north", box(200, 201).sheetsFor(0, 10), 2);
        Check.number("P37 a link more in both", box(201, 201).sheetsFor(0, 10), 4);
        Check.number("P37 three by five", box(600, 1000).sheetsFor(0, 10), 15);
        Check.number("P37 four by six", box(601, 1001).sheetsFor(0, 10), 24);
        Check.number("P37 a smaller scale", box(601, 1001).sheetsFor(0, 25), 6);
        Check.number("P37 the smallest scale", box(9999, 9999).sheetsFor(0, 1000), 1);
        Check.number("P37 the greatest scale", box(9999, 9999).sheetsFor(0, 10), 2500);
    }

    private static void sheetsElsewhere() {
        AcreOffice x = with(-150, 350, -50, 250, 51, 300, 20, 449);
        Check.number("P37 from -150 to 51 and 250 to 449", x.sheetsFor(0, 10), 2);
        AcreOffice last = with(0, 0, 0, 100, -201, 50);
        Check.number("P37 the last corner is farthest", last.sheetsFor(0, 10), 2);
        AcreOffice second = with(0, 0, 0, -201, 100, -50);
        Check.number("P37 corner 1 is farthest", second.sheetsFor(0, 10), 2);
        Check.number("P38 corner 1 is farthest", second.scaleFor(0), 11);
        AcreOffice after = new AcreOffice();
        Check.keepCorners(after, 0, 0, 500, 0, 500, 500, 0, 500);
        after.giveUp(0);
        Check.keepCorners(after, 0, 0, 100, 0, 0, 100);
        Check.number("P37 nothing is left of a field given up", after.sheetsFor(0, 10), 1);
    }

    private static void wrongSheets() {
        AcreOffice x = box(100, 100);
        Check.badArgument("P37 9 links", x, () -> x.sheetsFor(0, 9));
        Check.badArgument("P37 1001 links", x, () -> x.sheetsFor(0, 1001));
        Check.badArgument("P37 no links", x, () -> x.sheetsFor(0, 0));
        Check.badArgument("P37 links below 0", x, () -> x.sheetsFor(0, -10));
        Check.badArgument("P37 greatest int", x, () -> x.sheetsFor(0, Integer.MAX_VALUE));
        Check.noField("P37 the field goes first", x, () -> x.sheetsFor(1, 9));
    }

    private static void scales() {
        Check.number("P38 at least 10", box(1, 1).scaleFor(0), 10);
        Check.number("P38 just 10", box(200, 200).scaleFor(0), 10);
        Check.number("P38 just more to the east", box(201, 5).scaleFor(0), 11);
        Check.number("P38 just more to the north", box(5, 201).scaleFor(0), 11);
        Check.number("P38 just 11", box(220, 220).scaleFor(0), 11);
        Check.number("P38 the greater extent", box(400, 9999).scaleFor(0), 500);
    }

    /** A field of this extent to the east, which takes more than one leg. */
    private static AcreOffice longField(int third, int rest) {
        AcreOffice x = new AcreOffice();
        x.addLeg(third, 0, 100);
        x.addLeg(third, 0, 100);
        x.addLeg(rest, 0, 100);
        x.addLeg(0, 10, 100);
        x.addLeg(-rest, 0, 100);
        x.addLeg(-third, 0, 100);
        x.addLeg(-third, 0, 100);
        x.addLeg(0, -10, 100);
        x.keep();
        return x;
    }

    private static void noScale() {
        Check.number("P38 just 1000", longField(7000, 6000).scaleFor(0), 1000);
        Check.number("P37 just 1000", longField(7000, 6000).sheetsFor(0, 1000), 1);
        Check.number("P38 just not 999", longField(7000, 5981).scaleFor(0), 1000);
        Check.number("P38 just 999", longField(7000, 5980).scaleFor(0), 999);
        Check.number("P38 beyond 1000", longField(7000, 6001).scaleFor(0), AcreOffice.NONE);
        Check.number("P37 beyond 1000", longField(7000, 6001).sheetsFor(0, 1000), 2);
    }

    private static void fieldsThatAreNot() {
        AcreOffice x = box(100, 100);
        int[] wrong = {-1, 1, 6, Integer.MIN_VALUE, Integer.MAX_VALUE};
        for (int f : wrong) {
            Check.noField("P37 field " + f, x, () -> x.sheetsFor(f, 10));
            Check.noField("P38 field " + f, x, () -> x.scaleFor(f));
        }
    }
}
