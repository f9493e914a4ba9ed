/** Brings an office to the edges of what it holds. */
final class Offices {
    /** A valid text of 80 characters: field 0 is given up, and four legs are left of five. */
    static final String FULL_TEXT = "g0;" + "w9999s9999l20000;".repeat(4) + "e11n1l1;b";

    private Offices() {
    }

    static void legs(AcreOffice x, int count) {
        for (int k = 0; k < count; k++) {
            x.addLeg(k + 1, -k - 1, 100 + k);
        }
    }

    static void twelveLegs(AcreOffice x) {
        legs(x, 12);
    }

    /** Legs of the greatest parts to the east and the least to the north. */
    static void twelveFarLegs(AcreOffice x) {
        for (int k = 0; k < 12; k++) {
            x.addLeg(9999, -9999, 20000);
        }
    }

    /** Field f is a triangle that begins at f to the east. */
    static void triangles(AcreOffice x, int count) {
        for (int f = 0; f < count; f++) {
            Check.keepCorners(x, f, 0, f + 100, 0, f, 100);
        }
    }

    static void sixFields(AcreOffice x) {
        triangles(x, 6);
    }

    static void box(AcreOffice x, int east, int north) {
        Check.keepCorners(x, 0, 0, east, 0, east, north, 0, north);
    }

    /** A triangle with a right angle: twice its area is the product of the two. */
    static void triangle(AcreOffice x, int east, int north) {
        Check.keepCorners(x, 0, 0, east, 0, 0, north);
    }

    /** The legs of a triangle that closes, for a keep that follows. */
    static void closedLegs(AcreOffice x) {
        x.addLeg(100, 0, 100);
        x.addLeg(0, 100, 100);
        x.addLeg(-100, -100, 100);
    }

    /** The greatest field: 59994 links wide and high, with twelve corners. */
    static int diamond(AcreOffice x) {
        int[] easts = {1, 1, 1, -1, -1, -1, -1, -1, -1, 1, 1, 1};
        int[] norths = {1, 1, 1, 1, 1, 1, -1, -1, -1, -1, -1, -1};
        for (int k = 0; k < 12; k++) {
            x.addLeg(9999 * easts[k], 9999 * norths[k], 20000);
        }
        return x.keep();
    }

    /** A field of this extent to the east, up to 3 times 9999, and of 10 links to the north. */
    static void wide(AcreOffice x, int extent) {
        int third = extent / 3;
        x.addLeg(third, 0, 100);
        x.addLeg(third, 0, 100);
        x.addLeg(extent - 2 * third, 0, 100);
        x.addLeg(0, 10, 100);
        x.addLeg(-third, 0, 100);
        x.addLeg(-third, 0, 100);
        x.addLeg(2 * third - extent, 0, 100);
        x.addLeg(0, -10, 100);
        x.keep();
    }

    static void actions(AcreOffice x, int count) {
        for (int k = 0; k < count; k++) {
            x.setOrigin(k, -k);
        }
    }
}
