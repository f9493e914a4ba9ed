/** Promises 30 to 36: areas. */
public final class AreaTest {
    public static void main(String[] args) {
        twiceAreas();
        bigAreas();
        acresRoodsPerches();
        largestField();
        largestFieldByArea();
        twiceAreaOfAll();
        fieldsThatAreNot();
        Check.finish("AreaTest");
    }

    private static AcreOffice with(int... corners) {
        AcreOffice x = new AcreOffice();
        Check.keepCorners(x, corners);
        return x;
    }

    private static void twice(String what, AcreOffice x, long due) {
        Check.number("P30 " + what, x.twiceAreaByCorners(0), due);
        Check.number("P31 " + what, x.twiceAreaByStrips(0), due);
    }

    private static void twiceAreas() {
        twice("square", with(0, 0, 100, 0, 100, 100, 0, 100), 20000);
        twice("square the other way", with(0, 0, 0, 100, 100, 100, 100, 0), 20000);
        twice("square elsewhere", with(-700, 300, -600, 300, -600, 400, -700, 400), 20000);
        twice("least", with(0, 0, 1, 0, 0, 1), 1);
        twice("triangle", with(3, 5, 447 + 3, 257 + 5, 1 + 3, 448 + 5), 199999);
        twice("two loops", with(0, 0, 100, 100, 100, 0, 0, 50), 100 * 100 - 50 * 100);
    }

    private static void bigAreas() {
        AcreOffice x = new AcreOffice();
        x.setOrigin(50000, 50000);
        int[] easts = {1, 1, 1, -1, -1, -1, -1, -1, -1, 1, 1, 1};
        int[] norths = {1, 1, 1, 1, 1, 1, -1, -1, -1, -1, -1, -1};
        for (int k = 0; k < 12; k++) {
            x.addLeg(9999 * easts[k], 9999 * norths[k], 20000);
        }
        x.keep();
        twice("diamond", x, 4L * 29997L * 29997L);
        Check.number("P32 diamond", x.acresOf(0), 17996);
        Check.number("P33 diamond", x.roodsOf(0), 1);
        Check.number("P34 diamond", x.perchesOf(0), 24);
        Check.number("P36 diamond", x.twiceAreaOfAll(), 3599280036L);
    }

    private static void area(AcreOffice x, int acres, int roods, int perches) {
        String what = " of " + x.twiceAreaByCorners(0);
        Check.number("P32 acres" + what, x.acresOf(0), acres);
        Check.number("P33 roods" + what, x.roodsOf(0), roods);
        Check.number("P34 perches" + what, x.perchesOf(0), perches);
    }

    /** A right triangle: twice its area is the product of the two. */
    private static AcreOffice triangle(int east, int north) {
        return with(0, 0, east, 0, 0, north);
    }

    private static void acresRoodsPerches() {
        area(with(0, 0, 447, 257, 1, 448), 0, 3, 39);
        area(triangle(500, 400), 1, 0, 0);
        area(triangle(489, 409), 1, 0, 0);
        area(triangle(1, 1), 0, 0, 0);
        area(triangle(1250, 1), 0, 0, 1);
        area(triangle(1249, 1), 0, 0, 0);
        area(triangle(1251, 1), 0, 0, 1);
        area(triangle(500, 100), 0, 1, 0);
        area(triangle(7142, 7), 0, 0, 39);
        area(triangle(9999, 9999), 499, 3, 24);
        // 5 acres, 2 roods, 17 perches and 624 links
        area(with(0, 0, 1000, 0, 1000, 561, 0, 561, 0, 560, 0, 300), 5, 2, 17);
    }

    private static void largestField() {
        AcreOffice x = with(0, 0, 10, 0, 0, 10);
        Check.number("P35 one field", x.largestField(), 0);
        Check.keepCorners(x, 0, 0, 0, 30, 30, 0);
        Check.number("P35 the second", x.largestField(), 1);
        Check.keepCorners(x, 5, 5, 35, 5, 5, 35);
        Check.number("P35 two of one size", x.largestField(), 1);
        Check.keepCorners(x, 0, 0, 20, 0, 0, 20);
        Check.number("P35 a lesser one", x.largestField(), 1);
        x.giveUp(1);
        Check.number("P35 the next one", x.largestField(), 1);
        x.giveUp(1);
        Check.number("P35 the lesser one", x.largestField(), 1);
        x.giveUp(1);
        Check.number("P35 the least one", x.largestField(), 0);
        x.giveUp(0);
        Check.number("P35 none", x.largestField(), AcreOffice.NONE);
    }

    private static void largestFieldByArea() {
        // an area is half of twice the area, rounded down: 10 and 11 are both an area of 5
        AcreOffice x = with(0, 0, 10, 0, 0, 1);
        Check.keepCorners(x, 0, 0, 11, 0, 0, 1);
        Check.number("P35 areas are rounded down", x.largestField(), 0);
        Check.keepCorners(x, 0, 0, 12, 0, 0, 1);
        Check.number("P35 one link more", x.largestField(), 2);
        AcreOffice y = with(0, 0, 1, 0, 0, 1);
        Check.number("P35 an area of 0", y.largestField(), 0);
    }

    private static void twiceAreaOfAll() {
        AcreOffice x = with(0, 0, 1, 0, 0, 1);
        Check.number("P36 one field", x.twiceAreaOfAll(), 1);
        Check.keepCorners(x, 0, 0, 0, 3, 1, 0);
        Check.number("P36 halves are not lost", x.twiceAreaOfAll(), 4);
        Check.keepCorners(x, 0, 0, 100, 0, 100, 100, 0, 100);
        Check.number("P36 three fields", x.twiceAreaOfAll(), 20004);
        x.giveUp(0);
        Check.number("P36 two fields", x.twiceAreaOfAll(), 20003);
    }

    private static void fieldsThatAreNot() {
        int[] wrong = {-1, 1, 6, Integer.MIN_VALUE, Integer.MAX_VALUE};
        for (int f : wrong) {
            AcreOffice x = with(0, 0, 100, 0, 100, 100);
            Check.noField("P30 field " + f, x, () -> x.twiceAreaByCorners(f));
            Check.noField("P31 field " + f, x, () -> x.twiceAreaByStrips(f));
            Check.noField("P32 field " + f, x, () -> x.acresOf(f));
            Check.noField("P33 field " + f, x, () -> x.roodsOf(f));
            Check.noField("P34 field " + f, x, () -> x.perchesOf(f));
        }
    }
}
