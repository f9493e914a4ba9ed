/** The edges of promises 7 to 11, and of what the Terms say of orders. */
public final class EdgesOfOrdersTest {
    public static void main(String[] args) {
        typing();
        clearing();
        emptyAndShortTexts();
        separators();
        parts("the east part", "e", "n0l1");
        parts("the east part to the west", "w", "s0l1");
        parts("the north part", "e0n", "l1");
        parts("the north part to the south", "w0s", "l1");
        lengths();
        fieldDigits();
        signsThatAreNone();
        fullTexts();
        impossibleTexts();
        impossibleBacks();
        impossibleLegs();
        impossibleKeeps();
        impossibleGivingUp();
        impossibleChangesNothing();
        carryOutThrows();
        carryOutCounts();
        carryOutLegs();
        carryOutIsOneAction();
        carryOutLeavesTheText();
        Check.finish("EdgesOfOrdersTest");
    }

    private static void error(AcreOffice x, String text, int due) {
        Check.retype(x, text);
        Edge.is(x.textError(), due);
    }

    private static void valid(AcreOffice x, String text) {
        error(x, text, AcreOffice.NONE);
    }

    private static void impossible(AcreOffice x, String text, int due) {
        Check.retype(x, text);
        Edge.is(x.impossibleOrder(), due);
    }

    private static void typing() {
        Edge.at("P7 the first character", x -> Edge.is(x.type('e'), 1));
        Edge.at("P7 the eightieth character", x -> {
            Check.type(x, "b;".repeat(39) + "b");
            Edge.is(x.type(';'), 80);
        });
        Edge.at("P7 no character after the eightieth", x -> {
            Check.type(x, Offices.FULL_TEXT);
            Edge.badState(x, () -> x.type('b'));
            Edge.badState(x, () -> x.type(';'));
            Edge.badState(x, () -> x.type((char) 0));
            Edge.badState(x, () -> x.type((char) 65535));
            Edge.is(x.clearText(), 80);
        });
        Edge.at("P7 any character, the least and the greatest too", x -> {
            char[] any = {0, 10, 127, 128, 255, 256, 0xd800, 65535};
            for (int i = 0; i < any.length; i++) {
                Edge.is(x.type(any[i]), i + 1);
            }
        });
        Edge.at("P7 any character is the eightieth", x -> {
            Check.type(x, "b;".repeat(39) + "b");
            Edge.is(x.type((char) 65535), 80);
            Edge.is(x.textError(), 79);
        });
        Edge.at("P7 there is room again when the text is emptied", x -> {
            Check.type(x, Offices.FULL_TEXT);
            x.clearText();
            Edge.is(x.type('b'), 1);
            Edge.is(x.textError(), AcreOffice.NONE);
        });
        Edge.at("P7 typing is no action", x -> {
            Check.type(x, Offices.FULL_TEXT);
            Edge.is(x.recordedStates(), 0);
        });
    }

    private static void clearing() {
        Edge.at("P8 an empty text had no characters", x -> Edge.is(x.clearText(), 0));
        Edge.at("P8 one character", x -> {
            x.type('?');
            Edge.is(x.clearText(), 1);
        });
        Edge.at("P8 a full text had 80", x -> {
            Check.type(x, Offices.FULL_TEXT);
            Edge.is(x.clearText(), 80);
        });
        Edge.at("P8 it is empty then", x -> {
            Check.type(x, Offices.FULL_TEXT);
            x.clearText();
            Edge.is(x.clearText(), 0);
            Edge.is(x.textError(), 0);
            Edge.badState(x, x::carryOut);
        });
        Edge.at("P8 emptying is no action", x -> {
            x.type('b');
            x.clearText();
            Edge.is(x.recordedStates(), 0);
        });
    }

    private static void emptyAndShortTexts() {
        Edge.at("P9 an empty text ends too early", x -> Edge.is(x.textError(), 0));
        Edge.at("P9 the shortest valid texts", x -> {
            valid(x, "b");
            valid(x, "k");
        });
        Edge.at("P9 a leg that ends too early, at each place", x -> {
            String leg = "e10n20l";
            for (int length = 1; length <= leg.length(); length++) {
                error(x, leg.substring(0, length), length);
            }
            valid(x, leg + "3");
        });
        Edge.at("P9 a field that ends too early", x -> {
            error(x, "g", 1);
            error(x, "b;g", 3);
        });
        Edge.at("P9 no other sign begins an order", x -> {
            String wrong = "acdfhijlmnopqrstuvxyz0123456789EWBKG-";
            for (int i = 0; i < wrong.length(); i++) {
                error(x, wrong.substring(i, i + 1), 0);
            }
        });
    }

    private static void separators() {
        Edge.at("P9 a separator alone", x -> error(x, ";", 0));
        Edge.at("P9 a separator behind the last order", x -> error(x, "b;", 2));
        Edge.at("P9 a separator ahead of the first order", x -> error(x, ";b", 0));
        Edge.at("P9 two separators", x -> error(x, "b;;b", 2));
        Edge.at("P9 no separator", x -> {
            error(x, "bb", 1);
            error(x, "kb", 1);
            error(x, "g0b", 2);
            error(x, "e0n0l1b", 6);
        });
        Edge.at("P9 another separator", x -> {
            error(x, "b,b", 1);
            error(x, "b b", 1);
            error(x, "b:b", 1);
        });
        Edge.at("P9 a separator within an order", x -> {
            error(x, "e;", 1);
            error(x, "e0;", 2);
            error(x, "e0n;", 3);
            error(x, "e0n0;", 4);
            error(x, "e0n0l;", 5);
            error(x, "g;", 1);
        });
        Edge.at("P9 every order before and behind a separator", x -> valid(x, "b;k;g0;e0n0l1;k;b;g5;w0s0l1;b"));
    }

    /** A number of 0 to 9999 behind the head; the tail makes the text a whole one. */
    private static void parts(String which, String head, String tail) {
        int at = head.length();
        Edge.at("P9 0 is the least of " + which, x -> valid(x, head + "0" + tail));
        Edge.at("P9 9999 is the greatest of " + which, x -> valid(x, head + "9999" + tail));
        Edge.at("P9 10000 is too great for " + which, x -> error(x, head + "10000" + tail, at + 4));
        Edge.at("P9 99990 is too great for " + which, x -> error(x, head + "99990" + tail, at + 4));
        Edge.at("P9 1000 and 1 are in the range of " + which, x -> {
            valid(x, head + "1000" + tail);
            valid(x, head + "1" + tail);
        });
        Edge.at("P9 no leading zero in " + which, x -> {
            error(x, head + "00" + tail, at + 1);
            error(x, head + "01" + tail, at + 1);
            error(x, head + "09" + tail, at + 1);
            error(x, head + "00000" + tail, at + 1);
        });
        Edge.at("P9 no number as " + which, x -> error(x, head + tail, at));
        Edge.at("P9 no sign ahead of " + which, x -> {
            error(x, head + "-1" + tail, at);
            error(x, head + "+1" + tail, at);
        });
        Edge.at("P9 the text ends within " + which, x -> {
            error(x, head + "0", at + 1);
            error(x, head + "9999", at + 4);
        });
    }

    private static void lengths() {
        Edge.at("P9 1 is the least length", x -> valid(x, "e0n0l1"));
        Edge.at("P9 20000 is the greatest length", x -> valid(x, "e0n0l20000"));
        Edge.at("P9 a length of 0", x -> error(x, "e0n0l0", 5));
        Edge.at("P9 a length of 20001", x -> error(x, "e0n0l20001", 9));
        Edge.at("P9 lengths of five digits from 10000", x -> {
            valid(x, "e0n0l10000");
            valid(x, "e0n0l19999");
        });
        Edge.at("P9 lengths of five digits that are too great", x -> {
            error(x, "e0n0l20010", 9);
            error(x, "e0n0l20100", 9);
            error(x, "e0n0l21000", 9);
            error(x, "e0n0l30000", 9);
            error(x, "e0n0l99999", 9);
        });
        Edge.at("P9 lengths of four digits", x -> {
            valid(x, "e0n0l1000");
            valid(x, "e0n0l2001");
            valid(x, "e0n0l9999");
        });
        Edge.at("P9 lengths of six digits", x -> {
            error(x, "e0n0l100000", 10);
            error(x, "e0n0l200000", 10);
        });
        Edge.at("P9 no leading zero in a length", x -> {
            error(x, "e0n0l01", 5);
            error(x, "e0n0l00", 5);
        });
        Edge.at("P9 no length at all", x -> {
            error(x, "e0n0", 4);
            error(x, "e0n0;b", 4);
            error(x, "e0n0l", 5);
            error(x, "e0n0l;b", 5);
        });
        Edge.at("P9 a length is followed by a separator alone", x -> {
            valid(x, "e0n0l20000;b");
            error(x, "e0n0l1l", 6);
            error(x, "e0n0l20000l", 10);
        });
    }

    private static void fieldDigits() {
        Edge.at("P9 0 is the least digit", x -> valid(x, "g0"));
        Edge.at("P9 5 is the greatest digit", x -> valid(x, "g5"));
        Edge.at("P9 6 is none of the digits", x -> error(x, "g6", 1));
        Edge.at("P9 the signs next to the digits", x -> {
            error(x, "g/", 1);
            error(x, "g:", 1);
            error(x, "g9", 1);
        });
        Edge.at("P9 one digit alone", x -> {
            error(x, "g00", 2);
            error(x, "g05", 2);
            error(x, "g10", 2);
        });
    }

    private static void signsThatAreNone() {
        Edge.at("P9 signs that look like others when they are cut to eight bits", x -> {
            error(x, String.valueOf((char) ('b' + 256)), 0);
            error(x, "b" + (char) (';' + 256), 1);
            error(x, "e" + (char) ('0' + 256), 1);
            error(x, "g" + (char) ('0' + 65280), 1);
        });
        Edge.at("P9 digits of other scripts", x -> {
            error(x, "e" + (char) 0x660, 1);
            error(x, "e1" + (char) 0xff11, 2);
            error(x, "e1n1l1" + (char) 0x661, 6);
        });
        Edge.at("P9 the least and the greatest character", x -> {
            error(x, "b" + (char) 0, 1);
            error(x, "b;" + (char) 65535, 2);
        });
    }

    private static void fullTexts() {
        Edge.at("P9 a full text is valid", x -> valid(x, Offices.FULL_TEXT));
        Edge.at("P9 the first error of a full text is its first character", x ->
            error(x, ";" + "b;".repeat(39) + "b", 0));
        Edge.at("P9 the first error of a full text is its last character", x -> {
            error(x, "b;".repeat(39) + "bb", 79);
            error(x, "b;".repeat(39) + "b6", 79);
        });
        Edge.at("P9 a full text ends too early", x -> {
            error(x, "b;".repeat(40), 80);
            error(x, "g0;b" + ";b".repeat(37) + ";g", 80);
        });
        Edge.at("P9 a text that a longer one alone could end is right up to its end", x -> {
            error(x, "b;".repeat(39) + "e0", 80);
            error(x, "e1n1l1;".repeat(11) + "w9s", 80);
        });
        Edge.at("P9 a number ends with the eightieth character", x ->
            valid(x, "b;".repeat(35) + "e0n0l20000"));
        Edge.at("P9 a number is too great with the eightieth character", x ->
            error(x, "b;".repeat(35) + "e0n0l20001", 79));
        Edge.at("P9 errors behind the first one do not matter", x -> error(x, "b;x;y;e00;g9;;", 2));
    }

    private static void impossibleTexts() {
        Edge.at("P10 an empty text is not valid", x -> Edge.badState(x, x::impossibleOrder));
        Edge.at("P10 a text that ends too early is not valid", x -> {
            x.addLeg(1, 1, 1);
            Check.type(x, "b;");
            Edge.badState(x, x::impossibleOrder);
        });
        Edge.at("P10 a text with an error behind an impossible order is not valid", x -> {
            Check.type(x, "b;x");
            Edge.badState(x, x::impossibleOrder);
        });
        Edge.at("P10 a full text that is not valid", x -> {
            Check.type(x, "b;".repeat(40));
            Edge.badState(x, x::impossibleOrder);
        });
        Edge.at("P10 a full text of which all can be carried out", x -> {
            Offices.sixFields(x);
            impossible(x, Offices.FULL_TEXT, AcreOffice.NONE);
        });
        Edge.at("P10 it is told of the state now", x -> {
            Check.type(x, "b");
            Edge.is(x.impossibleOrder(), 0);
            x.addLeg(1, 1, 1);
            Edge.is(x.impossibleOrder(), AcreOffice.NONE);
            x.undo();
            Edge.is(x.impossibleOrder(), 0);
        });
    }

    private static void impossibleBacks() {
        Edge.at("P10 b without legs", x -> impossible(x, "b", 0));
        Edge.at("P10 the thirteenth b of a full traverse", x -> {
            Offices.twelveLegs(x);
            impossible(x, "b;".repeat(11) + "b", AcreOffice.NONE);
            impossible(x, "b;".repeat(12) + "b", 12);
        });
        Edge.at("P10 the fortieth order", x -> {
            Offices.twelveLegs(x);
            impossible(x, "b;".repeat(39) + "b", 12);
        });
        Edge.at("P10 b behind k", x -> {
            Offices.closedLegs(x);
            impossible(x, "k;b", 1);
        });
    }

    private static void impossibleLegs() {
        Edge.at("P10 a leg for a full traverse", x -> {
            Offices.twelveLegs(x);
            impossible(x, "e0n0l1", 0);
        });
        Edge.at("P10 the twelfth leg and the thirteenth", x -> {
            Offices.legs(x, 11);
            impossible(x, "e0n0l1", AcreOffice.NONE);
            impossible(x, "e0n0l1;e0n0l1", 1);
        });
        Edge.at("P10 a leg behind b for a full traverse", x -> {
            Offices.twelveLegs(x);
            impossible(x, "b;e0n0l1", AcreOffice.NONE);
        });
        Edge.at("P10 eleven legs of a full text fill a traverse of one", x -> {
            x.addLeg(1, 1, 1);
            impossible(x, "e0n0l1;".repeat(10) + "e0n0l1", AcreOffice.NONE);
            x.addLeg(1, 1, 1);
            impossible(x, "e0n0l1;".repeat(10) + "e0n0l1", 10);
        });
        Edge.at("P10 twelve legs behind k", x -> {
            Offices.closedLegs(x);
            impossible(x, "k" + ";e0n0l1".repeat(11), AcreOffice.NONE);
        });
    }

    private static void impossibleKeeps() {
        Edge.at("P10 k with two legs", x -> impossible(x, "e9n0l9;w9n0l9;k", 2));
        Edge.at("P10 k with three legs", x -> impossible(x, "e9n0l9;e0n9l9;w9s9l9;k", AcreOffice.NONE));
        Edge.at("P10 k that is just close, and just not", x -> {
            impossible(x, "e9n0l99;e0n9l99;w9s8l2;k", AcreOffice.NONE);
            impossible(x, "e9n0l99;e0n9l99;w9s8l1;k", 3);
        });
        Edge.at("P10 k without an area", x -> impossible(x, "e9n0l9;w8n0l9;w1n0l9;k", 3));
        Edge.at("P10 a second k", x -> impossible(x, "e9n0l9;e0n9l9;w9s9l9;k;k", 4));
        Edge.at("P10 k with five fields and with six", x -> {
            Offices.triangles(x, 5);
            impossible(x, "e9n0l9;e0n9l9;w9s9l9;k", AcreOffice.NONE);
            x.setOrigin(0, 0);
            Offices.closedLegs(x);
            x.keep();
            impossible(x, "e9n0l9;e0n9l9;w9s9l9;k", 3);
            impossible(x, "e9n0l9;e0n9l9;w9s9l9;g0;k", AcreOffice.NONE);
        });
    }

    private static void impossibleGivingUp() {
        Edge.at("P10 g without fields", x -> {
            impossible(x, "g0", 0);
            impossible(x, "g5", 0);
        });
        Edge.at("P10 g just behind the last field", x -> {
            Offices.triangles(x, 3);
            impossible(x, "g2", AcreOffice.NONE);
            impossible(x, "g3", 0);
        });
        Edge.at("P10 g5 of six fields, and once more", x -> {
            Offices.sixFields(x);
            impossible(x, "g5", AcreOffice.NONE);
            impossible(x, "g5;g5", 1);
        });
        Edge.at("P10 all six fields, and one more", x -> {
            Offices.sixFields(x);
            impossible(x, "g0;g0;g0;g0;g0;g0", AcreOffice.NONE);
            impossible(x, "g0;g0;g0;g0;g0;g0;g0", 6);
        });
        Edge.at("P10 a field that the text itself keeps", x -> {
            impossible(x, "e9n0l9;e0n9l9;w9s9l9;k;g0", AcreOffice.NONE);
            impossible(x, "e9n0l9;e0n9l9;w9s9l9;g0;k", 3);
        });
    }

    private static void impossibleChangesNothing() {
        Edge.at("P10 orders that could be carried out are not", x -> {
            Offices.sixFields(x);
            Offices.closedLegs(x);
            Check.type(x, Offices.FULL_TEXT);
            String before = Check.pictureOf(x);
            Edge.is(x.impossibleOrder(), AcreOffice.NONE);
            Edge.is(Check.pictureOf(x), before);
        });
        Edge.at("P10 the orders ahead of the impossible one are not carried out", x -> {
            Offices.sixFields(x);
            Check.type(x, "g0;e1n1l1;b;b");
            String before = Check.pictureOf(x);
            Edge.is(x.impossibleOrder(), 3);
            Edge.is(Check.pictureOf(x), before);
        });
        Edge.at("P10 asking is no action", x -> {
            Check.type(x, "e1n1l1");
            x.impossibleOrder();
            Edge.is(x.recordedStates(), 0);
        });
    }

    private static void carryOutThrows() {
        Edge.at("P11 an empty text", x -> Edge.badState(x, x::carryOut));
        Edge.at("P11 a text with an error", x -> {
            Check.type(x, "e1n1l1;x");
            Edge.badState(x, x::carryOut);
        });
        Edge.at("P11 a text that ends too early", x -> {
            Check.type(x, "e1n1l1;");
            Edge.badState(x, x::carryOut);
        });
        Edge.at("P11 the first order cannot be carried out", x -> {
            Check.type(x, "b;e1n1l1");
            Edge.badState(x, x::carryOut);
        });
        Edge.at("P11 the last order cannot be carried out", x -> {
            Offices.sixFields(x);
            Check.type(x, "g0;g0;g0;g0;g0;g0;e1n1l1;k");
            Edge.badState(x, x::carryOut);
            Edge.is(x.fields(), 6);
            Edge.is(x.legs(), 0);
        });
        Edge.at("P11 refused with four recorded states, it records none", x -> {
            Offices.actions(x, 5);
            Check.type(x, "e1n1l1;k");
            Edge.badState(x, x::carryOut);
            x.undo();
            Edge.is(x.adjustedEast(0), 3);
        });
    }

    private static void carryOutCounts() {
        Edge.at("P11 one order", x -> {
            Check.type(x, "e1n1l1");
            Edge.is(x.carryOut(), 1);
        });
        Edge.at("P11 the orders of a full text", x -> {
            Offices.sixFields(x);
            Check.type(x, Offices.FULL_TEXT);
            Edge.is(x.carryOut(), 7);
            Edge.is(x.fields(), 5);
            Edge.is(x.legs(), 4);
        });
        Edge.at("P11 25 orders of 80 characters", x -> {
            Offices.sixFields(x);
            Offices.twelveLegs(x);
            Check.type(x, "g0;".repeat(6) + "b;".repeat(12) + "e0n0l1;".repeat(5) + "b;b");
            Edge.is(x.carryOut(), 25);
            Edge.is(x.fields(), 0);
            Edge.is(x.legs(), 3);
        });
        Edge.at("P11 the text fills a traverse", x -> {
            x.addLeg(1, 1, 1);
            Check.type(x, "e0n0l1;".repeat(10) + "e0n0l1");
            Edge.is(x.carryOut(), 11);
            Edge.is(x.legs(), 12);
        });
    }

    private static void leg(AcreOffice x, String text, int east, int north, int length) {
        Check.type(x, text);
        Edge.is(x.carryOut(), 1);
        Edge.is(x.errorEast(), east);
        Edge.is(x.errorNorth(), north);
        Edge.is(x.traverseLength(), length);
    }

    private static void carryOutLegs() {
        Edge.at("P11 the greatest leg to the east and the north", x -> leg(x, "e9999n9999l20000", 9999, 9999, 20000));
        Edge.at("P11 the greatest leg to the west and the south", x -> leg(x, "w9999s9999l20000", -9999, -9999, 20000));
        Edge.at("P11 to the east and the south", x -> leg(x, "e9999s1l19999", 9999, -1, 19999));
        Edge.at("P11 to the west and the north", x -> leg(x, "w1n9999l10000", -1, 9999, 10000));
        Edge.at("P11 the least leg", x -> leg(x, "w0s0l1", 0, 0, 1));
        Edge.at("P11 the sixth field", x -> {
            Offices.triangles(x, 5);
            x.setOrigin(0, 0);
            Check.type(x, "e9n0l9;e0n9l9;w9s9l9;k");
            Edge.is(x.carryOut(), 4);
            Edge.is(x.fields(), 6);
            Edge.is(x.twiceAreaByCorners(5), 81);
            Edge.badState(x, x::carryOut);
        });
    }

    private static void carryOutIsOneAction() {
        Edge.at("P11 many orders record one state", x -> {
            Check.type(x, "e1n1l1;e2n2l2;e3n3l3;b;e4n4l4;e5n5l5");
            x.carryOut();
            Edge.is(x.recordedStates(), 1);
            Edge.is(x.undo(), 0);
            Edge.is(x.legs(), 0);
        });
        Edge.at("P11 with four recorded states four are recorded", x -> {
            Offices.actions(x, 4);
            Check.type(x, "e1n1l1;e2n2l2;b;b");
            x.carryOut();
            Edge.is(x.recordedStates(), 4);
            x.undo();
            Edge.is(x.adjustedEast(0), 3);
        });
        Edge.at("P11 orders that change nothing in the end are an action", x -> {
            Check.type(x, "e1n1l1;b");
            Edge.is(x.carryOut(), 2);
            Edge.is(x.recordedStates(), 1);
        });
    }

    private static void carryOutLeavesTheText() {
        Edge.at("P11 the text stays when it was carried out", x -> {
            Check.type(x, "e1n1l1");
            x.carryOut();
            Edge.is(x.carryOut(), 1);
            Edge.is(x.legs(), 2);
            Edge.is(x.clearText(), 6);
        });
        Edge.at("P11 the text stays when it was refused", x -> {
            Check.type(x, "b;e1n1l1");
            Edge.badState(x, x::carryOut);
            x.addLeg(1, 1, 1);
            Edge.is(x.carryOut(), 2);
            Edge.is(x.clearText(), 8);
        });
        Edge.at("P11 a full text stays", x -> {
            Offices.triangles(x, 2);
            Check.type(x, Offices.FULL_TEXT);
            x.carryOut();
            Edge.is(x.carryOut(), 7);
            Edge.is(x.legs(), 8);
            Edge.badState(x, x::carryOut);
            Edge.is(x.clearText(), 80);
        });
        Edge.at("P11 nothing of a longer text is left in a shorter one", x -> {
            Check.type(x, "e1n1l1;e2n2l2;g5");
            Edge.is(x.impossibleOrder(), 2);
            Check.retype(x, "w3s3l3");
            Edge.is(x.carryOut(), 1);
            Edge.is(x.errorEast(), -3);
        });
    }
}
