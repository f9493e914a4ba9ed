/** The edges of promises 30 to 38, and of what the Terms say of areas. */
public final class EdgesOfAreasTest {
    private static final long TWICE_THE_DIAMOND = 4L * 29997L * 29997L;

    public static void main(String[] args) {
        twiceAreas();
        twiceAreasOfNoField();
        acres();
        roods();
        perches();
        measuresOfNoField();
        largestField();
        twiceAreaOfAll();
        linksOfSheets();
        sheets();
        sheetsOfNoField();
        scales();
        Check.finish("EdgesOfAreasTest");
    }

    private static void twice(AcreOffice x, long due) {
        Edge.is(x.twiceAreaByCorners(0), due);
        Edge.is(x.twiceAreaByStrips(0), due);
    }

    private static void twiceAreas() {
        Edge.at("P30 P31 the least field", x -> {
            Offices.triangle(x, 1, 1);
            twice(x, 1);
        });
        Edge.at("P30 P31 the greatest field, far to the north and the east", x -> {
            x.setOrigin(50000, 50000);
            Offices.diamond(x);
            twice(x, TWICE_THE_DIAMOND);
        });
        Edge.at("P30 P31 the greatest field, far to the south and the west", x -> {
            x.setOrigin(-50000, -50000);
            Offices.diamond(x);
            twice(x, TWICE_THE_DIAMOND);
        });
        Edge.at("P30 P31 the size of a sum below 0", x -> {
            Check.keepCorners(x, 0, 0, 0, 300, 200, 0);
            twice(x, 60000);
        });
        Edge.at("P30 P31 the side from the last corner to corner 0 counts", x -> {
            Check.keepCorners(x, 7, 3, 107, 3, 7, 103);
            twice(x, 10000);
            Check.keepCorners(x, 7, 103, 7, 3, 107, 3);
            Edge.is(x.twiceAreaByCorners(1), 10000);
            Edge.is(x.twiceAreaByStrips(1), 10000);
        });
        Edge.at("P30 P31 a loop the other way is taken off", x -> {
            Check.keepCorners(x, 0, 0, 100, 100, 100, 0, 0, 50);
            twice(x, 5000);
        });
    }

    private static void twiceAreasOfNoField() {
        Edge.at("P30 no such field", x -> {
            Edge.noSuch(x, () -> x.twiceAreaByCorners(0));
            Offices.sixFields(x);
            Edge.is(x.twiceAreaByCorners(5), 10000);
            Edge.noSuch(x, () -> x.twiceAreaByCorners(-1));
            Edge.noSuch(x, () -> x.twiceAreaByCorners(6));
        });
        Edge.at("P31 no such field", x -> {
            Edge.noSuch(x, () -> x.twiceAreaByStrips(0));
            Offices.sixFields(x);
            Edge.is(x.twiceAreaByStrips(5), 10000);
            Edge.noSuch(x, () -> x.twiceAreaByStrips(-1));
            Edge.noSuch(x, () -> x.twiceAreaByStrips(6));
        });
    }

    private static void measure(AcreOffice x, int acres, int roods, int perches) {
        Edge.is(x.acresOf(0), acres);
        Edge.is(x.roodsOf(0), roods);
        Edge.is(x.perchesOf(0), perches);
    }

    private static void acres() {
        Edge.at("P32 just an acre", x -> {
            Offices.triangle(x, 500, 400);
            measure(x, 1, 0, 0);
        });
        Edge.at("P32 half a square link less than an acre", x -> {
            Check.keepCorners(x, 0, 0, 447, 257, 1, 448);
            Edge.is(x.twiceAreaByCorners(0), 199999);
            measure(x, 0, 3, 39);
        });
        Edge.at("P32 half a square link more than an acre", x -> {
            Offices.triangle(x, 489, 409);
            Edge.is(x.twiceAreaByCorners(0), 200001);
            measure(x, 1, 0, 0);
        });
        Edge.at("P32 the least field has no acre", x -> {
            Offices.triangle(x, 1, 1);
            measure(x, 0, 0, 0);
        });
        Edge.at("P32 the greatest field", x -> {
            Offices.diamond(x);
            measure(x, 17996, 1, 24);
        });
    }

    private static void roods() {
        Edge.at("P33 just a rood", x -> {
            Offices.triangle(x, 500, 100);
            measure(x, 0, 1, 0);
        });
        Edge.at("P33 a square link less than a rood", x -> {
            Offices.triangle(x, 7142, 7);
            Edge.is(x.twiceAreaByCorners(0), 49994);
            measure(x, 0, 0, 39);
        });
        Edge.at("P33 half a square link less than a rood", x -> {
            Check.keepCorners(x, 0, 0, 500, 1, 1, 100);
            Edge.is(x.twiceAreaByCorners(0), 49999);
            measure(x, 0, 0, 39);
        });
        Edge.at("P33 half a square link more than a rood", x -> {
            Check.keepCorners(x, 0, 0, 500, 1, -1, 100);
            Edge.is(x.twiceAreaByCorners(0), 50001);
            measure(x, 0, 1, 0);
        });
        Edge.at("P33 three roods are the most", x -> {
            Offices.triangle(x, 500, 300);
            measure(x, 0, 3, 0);
        });
        Edge.at("P33 four roods are an acre", x -> {
            Offices.triangle(x, 1000, 200);
            measure(x, 1, 0, 0);
        });
        Edge.at("P33 an acre and three roods", x -> {
            Offices.triangle(x, 700, 500);
            measure(x, 1, 3, 0);
        });
    }

    private static void perches() {
        Edge.at("P34 just a perch", x -> {
            Offices.triangle(x, 1250, 1);
            measure(x, 0, 0, 1);
        });
        Edge.at("P34 half a square link less than a perch", x -> {
            Offices.triangle(x, 1249, 1);
            measure(x, 0, 0, 0);
        });
        Edge.at("P34 half a square link more than a perch", x -> {
            Offices.triangle(x, 1251, 1);
            measure(x, 0, 0, 1);
        });
        Edge.at("P34 just two perches", x -> {
            Offices.triangle(x, 2500, 1);
            measure(x, 0, 0, 2);
        });
        Edge.at("P34 39 perches are the most", x -> {
            Offices.triangle(x, 4875, 10);
            measure(x, 0, 0, 39);
        });
        Edge.at("P34 40 perches are a rood", x -> {
            Offices.triangle(x, 5000, 10);
            measure(x, 0, 1, 0);
        });
        Edge.at("P34 an acre, three roods, 39 perches", x -> {
            Offices.triangle(x, 3995, 100);
            Edge.is(x.twiceAreaByCorners(0), 2L * (100000 + 3 * 25000 + 39 * 625) + 750);
            measure(x, 1, 3, 39);
        });
    }

    private static void measuresOfNoField() {
        Edge.at("P32 no such field", x -> {
            Edge.noSuch(x, () -> x.acresOf(0));
            Offices.sixFields(x);
            Edge.is(x.acresOf(5), 0);
            Edge.noSuch(x, () -> x.acresOf(-1));
            Edge.noSuch(x, () -> x.acresOf(6));
        });
        Edge.at("P33 no such field", x -> {
            Edge.noSuch(x, () -> x.roodsOf(0));
            Offices.sixFields(x);
            Edge.is(x.roodsOf(5), 0);
            Edge.noSuch(x, () -> x.roodsOf(-1));
            Edge.noSuch(x, () -> x.roodsOf(6));
        });
        Edge.at("P34 no such field", x -> {
            Edge.noSuch(x, () -> x.perchesOf(0));
            Offices.sixFields(x);
            Edge.is(x.perchesOf(5), 8);
            Edge.noSuch(x, () -> x.perchesOf(-1));
            Edge.noSuch(x, () -> x.perchesOf(6));
        });
    }

    private static void largestField() {
        Edge.at("P35 no field", x -> Edge.is(x.largestField(), AcreOffice.NONE));
        Edge.at("P35 no field any more", x -> {
            Offices.triangles(x, 1);
            x.giveUp(0);
            Edge.is(x.largestField(), AcreOffice.NONE);
        });
        Edge.at("P35 the only field, with an area of 0", x -> {
            Offices.triangle(x, 1, 1);
            Edge.is(x.largestField(), 0);
        });
        Edge.at("P35 of six of one area the first", x -> {
            Offices.sixFields(x);
            Edge.is(x.largestField(), 0);
        });
        Edge.at("P35 the last of six", x -> {
            Offices.triangles(x, 5);
            Offices.triangle(x, 101, 100);
            Edge.is(x.largestField(), 5);
        });
        Edge.at("P35 of several the least number, not 0", x -> {
            Offices.triangles(x, 2);
            Offices.triangle(x, 101, 100);
            Offices.triangle(x, 100, 101);
            Offices.triangles(x, 2);
            Edge.is(x.largestField(), 2);
        });
        Edge.at("P35 the area is rounded down before it is compared", x -> {
            Offices.triangle(x, 10, 1);
            Offices.triangle(x, 11, 1);
            Edge.is(x.largestField(), 0);
            Offices.triangle(x, 12, 1);
            Edge.is(x.largestField(), 2);
        });
        Edge.at("P35 the greatest field there is", x -> {
            Offices.triangles(x, 5);
            x.setOrigin(0, 0);
            Offices.diamond(x);
            Edge.is(x.largestField(), 5);
        });
    }

    private static void twiceAreaOfAll() {
        Edge.at("P36 no field", x -> Edge.is(x.twiceAreaOfAll(), 0));
        Edge.at("P36 no field any more", x -> {
            Offices.triangles(x, 1);
            x.giveUp(0);
            Edge.is(x.twiceAreaOfAll(), 0);
        });
        Edge.at("P36 one field", x -> {
            Offices.triangle(x, 1, 1);
            Edge.is(x.twiceAreaOfAll(), 1);
        });
        Edge.at("P36 six fields of an odd number", x -> {
            for (int f = 0; f < 6; f++) {
                Offices.triangle(x, 2 * f + 1, 1);
            }
            Edge.is(x.twiceAreaOfAll(), 36);
        });
        Edge.at("P36 six of the greatest fields", x -> {
            for (int f = 0; f < 6; f++) {
                Offices.diamond(x);
            }
            Edge.is(x.twiceAreaOfAll(), 6L * TWICE_THE_DIAMOND);
        });
        Edge.at("P36 fields that turn the other way add to it", x -> {
            Check.keepCorners(x, 0, 0, 10, 0, 0, 10);
            Check.keepCorners(x, 0, 0, 0, 10, 10, 0);
            Edge.is(x.twiceAreaOfAll(), 200);
        });
    }

    private static void linksOfSheets() {
        Edge.at("P37 10 links are the least", x -> {
            Offices.box(x, 400, 200);
            Edge.is(x.sheetsFor(0, 10), 2);
        });
        Edge.at("P37 1000 links are the most", x -> {
            Offices.diamond(x);
            Edge.is(x.sheetsFor(0, 1000), 9);
        });
        Edge.at("P37 9 links", x -> {
            Offices.box(x, 400, 200);
            Edge.badArgument(x, () -> x.sheetsFor(0, 9));
        });
        Edge.at("P37 1001 links", x -> {
            Offices.box(x, 400, 200);
            Edge.badArgument(x, () -> x.sheetsFor(0, 1001));
        });
        Edge.at("P37 no links, and the ends of int", x -> {
            Offices.box(x, 400, 200);
            Edge.badArgument(x, () -> x.sheetsFor(0, 0));
            Edge.badArgument(x, () -> x.sheetsFor(0, Integer.MIN_VALUE));
            Edge.badArgument(x, () -> x.sheetsFor(0, Integer.MAX_VALUE));
        });
    }

    private static void sheets() {
        Edge.at("P37 at least one sheet in each direction", x -> {
            Offices.triangle(x, 1, 1);
            Edge.is(x.sheetsFor(0, 10), 1);
            Edge.is(x.sheetsFor(0, 1000), 1);
        });
        Edge.at("P37 just a full sheet", x -> {
            Offices.box(x, 200, 200);
            Edge.is(x.sheetsFor(0, 10), 1);
        });
        Edge.at("P37 a link more to the east", x -> {
            Offices.box(x, 201, 200);
            Edge.is(x.sheetsFor(0, 10), 2);
        });
        Edge.at("P37 a link more to the north", x -> {
            Offices.box(x, 200, 201);
            Edge.is(x.sheetsFor(0, 10), 2);
        });
        Edge.at("P37 just full sheets in both directions", x -> {
            Offices.box(x, 600, 400);
            Edge.is(x.sheetsFor(0, 10), 6);
        });
        Edge.at("P37 a link more than that in both directions", x -> {
            Offices.box(x, 601, 401);
            Edge.is(x.sheetsFor(0, 10), 12);
        });
        Edge.at("P37 the most sheets", x -> {
            x.setOrigin(-50000, 50000);
            Offices.diamond(x);
            Edge.is(x.sheetsFor(0, 10), 90000);
        });
        Edge.at("P37 the farthest corner is corner 0, corner 1, or the last", x -> {
            Check.keepCorners(x, 201, 0, 0, 0, 0, 50);
            Check.keepCorners(x, 0, 0, 201, 0, 0, 50);
            Check.keepCorners(x, 0, 0, 0, 50, -201, 0);
            Check.keepCorners(x, 0, 0, 0, -201, 100, -50);
            for (int f = 0; f < 4; f++) {
                Edge.is(x.sheetsFor(f, 10), 2);
                Edge.is(x.scaleFor(f), 11);
            }
        });
        Edge.at("P37 extents on both sides of 0", x -> {
            Check.keepCorners(x, -100, -100, 100, -100, 100, 100, -100, 100);
            Edge.is(x.sheetsFor(0, 10), 1);
            Check.keepCorners(x, -101, -100, 100, -100, 100, 100, -101, 100);
            Edge.is(x.sheetsFor(1, 10), 2);
        });
    }

    private static void sheetsOfNoField() {
        Edge.at("P37 no such field", x -> {
            Edge.noSuch(x, () -> x.sheetsFor(0, 10));
            Offices.sixFields(x);
            Edge.is(x.sheetsFor(5, 10), 1);
            Edge.noSuch(x, () -> x.sheetsFor(-1, 10));
            Edge.noSuch(x, () -> x.sheetsFor(6, 1000));
        });
        Edge.at("P37 no such field goes before links out of range", x -> {
            Edge.noSuch(x, () -> x.sheetsFor(0, 9));
            Offices.triangles(x, 1);
            Edge.noSuch(x, () -> x.sheetsFor(-1, 9));
            Edge.noSuch(x, () -> x.sheetsFor(1, 1001));
        });
    }

    private static void scales() {
        Edge.at("P38 10 links are the least", x -> {
            Offices.triangle(x, 1, 1);
            Edge.is(x.scaleFor(0), 10);
        });
        Edge.at("P38 just 10 links", x -> {
            Offices.box(x, 200, 200);
            Edge.is(x.scaleFor(0), 10);
        });
        Edge.at("P38 just not 10 links, to the east", x -> {
            Offices.box(x, 201, 200);
            Edge.is(x.scaleFor(0), 11);
        });
        Edge.at("P38 just not 10 links, to the north", x -> {
            Offices.box(x, 200, 201);
            Edge.is(x.scaleFor(0), 11);
        });
        Edge.at("P38 just 1000 links", x -> {
            Offices.wide(x, 20000);
            Edge.is(x.scaleFor(0), 1000);
        });
        Edge.at("P38 just not 999 links", x -> {
            Offices.wide(x, 19981);
            Edge.is(x.scaleFor(0), 1000);
        });
        Edge.at("P38 just 999 links", x -> {
            Offices.wide(x, 19980);
            Edge.is(x.scaleFor(0), 999);
        });
        Edge.at("P38 just not 1000 links", x -> {
            Offices.wide(x, 20001);
            Edge.is(x.scaleFor(0), AcreOffice.NONE);
        });
        Edge.at("P38 the greatest field does not fit", x -> {
            Offices.diamond(x);
            Edge.is(x.scaleFor(0), AcreOffice.NONE);
        });
        Edge.at("P38 no such field", x -> {
            Edge.noSuch(x, () -> x.scaleFor(0));
            Offices.sixFields(x);
            Edge.is(x.scaleFor(5), 10);
            Edge.noSuch(x, () -> x.scaleFor(-1));
            Edge.noSuch(x, () -> x.scaleFor(6));
        });
    }
}
