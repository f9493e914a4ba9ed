/** Promises 7 to 11: the order text, its first error, and its carrying out. */
public final class OrderTextTest {
    public static void main(String[] args) {
        typing();
        fullText();
        anyCharacter();
        validTexts();
        errorsOfTexts();
        textsThatEndTooEarly();
        impossibleOrders();
        impossibleOrdersBehindLegs();
        impossibleOrdersWhenFull();
        carryOut();
        carryOutAsOneAction();
        carryOutThatFails();
        legsOfATextThatIsUsedAgain();
        theTextIsNoState();
        Check.finish("OrderTextTest");
    }

    private static void typing() {
        AcreOffice x = new AcreOffice();
        Check.number("P7 first", x.type('b'), 1);
        Check.number("P7 second", x.type(';'), 2);
        Check.number("P8 had two", x.clearText(), 2);
        Check.number("P8 has none", x.clearText(), 0);
        Check.number("P7 first again", x.type('k'), 1);
        Check.number("P9 the old text is gone", x.textError(), AcreOffice.NONE);
        Check.number("P39 typing is no action", x.recordedStates(), 0);
    }

    private static void fullText() {
        AcreOffice x = new AcreOffice();
        for (int k = 1; k <= 80; k++) {
            Check.number("P7 character " + k, x.type(k % 2 == 1 ? 'b' : ';'), k);
        }
        Check.number("P9 ends with ;", x.textError(), 80);
        Check.badState("P7 character 81", x, () -> x.type('b'));
        Check.badState("P7 any character 81", x, () -> x.type('?'));
        Check.number("P8 had 80", x.clearText(), 80);
        Check.type(x, "b;".repeat(39) + "g0");
        Check.number("P9 forty orders in 80 characters", x.textError(), AcreOffice.NONE);
        Check.number("P10 the first fails", x.impossibleOrder(), 0);
        Check.retype(x, "g5;".repeat(26) + "g5");
        Check.number("P9 80 characters", x.textError(), AcreOffice.NONE);
        Check.retype(x, "e1n1l1;".repeat(11) + "b;k");
        Check.number("P9 80 characters, 13 orders", x.textError(), AcreOffice.NONE);
        Check.number("P10 the last fails", x.impossibleOrder(), 12);
        Check.retype(x, "e1n1l1;".repeat(11) + "b;b");
        Check.number("P11 80 characters, 13 orders", x.carryOut(), 13);
        Check.number("P11 nine legs are left", x.legs(), 9);
        Check.retype(x, "b;b;b;b;b;b;b;b;b");
        Check.number("P11 nine orders", x.carryOut(), 9);
    }

    private static void anyCharacter() {
        AcreOffice x = new AcreOffice();
        Check.number("P7 character 0", x.type((char) 0), 1);
        Check.number("P9 character 0", x.textError(), 0);
        Check.number("P7 character 65535", x.type((char) 65535), 2);
        Check.number("P7 character 256", x.type((char) 256), 3);
        Check.number("P8", x.clearText(), 3);
        char[] strange = {(char) 0x662, (char) 0xff12, 'b' + 256, 'k' + 0x2000, ' ', 'B', 'E', '+', '-'};
        for (char c : strange) {
            Check.retype(x, "b;" + c);
            Check.number("P9 character " + (int) c, x.textError(), 2);
            Check.retype(x, "e" + c);
            Check.number("P9 character " + (int) c + " as a digit", x.textError(), 1);
            Check.retype(x, "e5n5l5" + c);
            Check.number("P9 character " + (int) c + " in a length", x.textError(), 6);
        }
        nextToTheDigits();
        Check.retype(x, "e" + (char) ('5' + 256));
        Check.number("P9 no digit", x.textError(), 1);
    }

    private static void nextToTheDigits() {
        String[] starts = {"", "e", "e5", "e5n", "e5n5", "e5n5l", "e5n5l5", "g", "g5", "b"};
        for (String start : starts) {
            error(start + "/", start.length());
            error(start + ":", start.length());
        }
    }

    private static void validTexts() {
        String[] texts = {"b", "k", "g0", "g5", "e0n0l1", "w9999s9999l20000", "e10s203l9", "w1n0l19999",
            "b;b", "g0;k;b;e1n2l3", "e0n0l10000;g3", "w0s0l2000", "e5s5l2001", "e5s5l9999", "e0n0l1;w1s1l2;k"};
        AcreOffice x = new AcreOffice();
        for (String text : texts) {
            Check.retype(x, text);
            Check.number("P9 " + text, x.textError(), AcreOffice.NONE);
        }
    }

    private static void error(String text, int due) {
        AcreOffice x = new AcreOffice();
        Check.type(x, text);
        Check.number("P9 " + text, x.textError(), due);
        Check.badState("P10 " + text, x, x::impossibleOrder);
        Check.badState("P11 " + text, x, x::carryOut);
        Check.number("P8 after " + text, x.clearText(), text.length());
    }

    private static void errorsOfTexts() {
        error(";", 0);
        error("b;;", 2);
        error("n5", 0);
        error("5", 0);
        error("l5", 0);
        error("bb", 1);
        error("b0", 1);
        error("kk", 1);
        error("k;kb", 3);
        error("gg", 1);
        error("g6", 1);
        error("g9", 1);
        error("g-", 1);
        error("g00", 2);
        error("g1b", 2);
        error("en", 1);
        error("e;", 1);
        error("e00", 2);
        error("e01", 2);
        error("e0e", 2);
        error("e9999e", 5);
        error("e10000", 5);
        error("e99990", 5);
        error("e5l", 2);
        error("e5w", 2);
        error("e5;", 2);
        error("e5nn", 3);
        error("e5n;", 3);
        error("e5nl", 3);
        error("e5s00", 4);
        error("e5s07", 4);
        error("e5s12345", 7);
        error("e5s5n", 4);
        error("e5s5;", 4);
        error("e5s5ll", 5);
        error("e5s5l0", 5);
        error("e5s5l;", 5);
        error("e5s5l1n", 6);
        error("e5s5l20001", 9);
        error("e5s5l20009", 9);
        error("e5s5l20010", 9);
        error("e5s5l21000", 9);
        error("e5s5l99999", 9);
        error("e5s5l200000", 10);
        error("e5s5l100000", 10);
        error("e5s5l1 ;", 6);
        error("b;e1n1l1;x", 9);
        error("x" + "b;".repeat(20), 0);
    }

    private static void textsThatEndTooEarly() {
        error("", 0);
        error("b;", 2);
        error("g", 1);
        error("k;g", 3);
        error("e", 1);
        error("w0", 2);
        error("w0s", 3);
        error("w0s0", 4);
        error("w0s0l", 5);
        error("e1n1l1;", 7);
        error("b;".repeat(40), 80);
    }

    private static void impossible(AcreOffice x, String text, int due) {
        Check.retype(x, text);
        String before = Check.pictureOf(x);
        Check.number("P10 " + text, x.impossibleOrder(), due);
        Check.same("P10 changes nothing", Check.pictureOf(x), before);
        if (due == AcreOffice.NONE) {
            return;
        }
        Check.badState("P11 " + text, x, x::carryOut);
        Check.number("P8 the text stays", x.clearText(), text.length());
    }

    private static void impossibleOrders() {
        AcreOffice x = new AcreOffice();
        impossible(x, "b", 0);
        impossible(x, "k", 0);
        impossible(x, "g0", 0);
        impossible(x, "e5n5l5;b;b", 2);
        impossible(x, "e5n5l5;b", AcreOffice.NONE);
    }

    private static void impossibleOrdersBehindLegs() {
        AcreOffice x = new AcreOffice();
        impossible(x, "e9n0l9;e0n9l9;k", 2);
        impossible(x, "e9n0l9;e0n9l9;w9s8l9;k", 3);
        impossible(x, "e9n0l9;e0n9l9;w9s9l9;k", AcreOffice.NONE);
        impossible(x, "e9n0l9;e0n9l9;w9s9l9;k;g0;g0", 5);
        impossible(x, "e9n0l9;e0n9l9;w9s9l9;k;g1", 4);
        impossible(x, "e9n0l9;e0n9l9;w9s9l9;k;k", 4);
        impossible(x, "e9n0l9;w8s0l9;w1n0l9;k", 3);
        impossible(x, "e9n0l9;e0n9l9;w9s9l9;k;e1n1l1;g0;b;b", 7);
    }

    private static AcreOffice withSixFields() {
        AcreOffice x = new AcreOffice();
        Offices.sixFields(x);
        return x;
    }

    private static void impossibleOrdersWhenFull() {
        impossible(withSixFields(), "e9n0l9;e0n9l9;w9s9l9;k", 3);
        impossible(withSixFields(), "g5;e9n0l9;e0n9l9;w9s9l9;k;g5", AcreOffice.NONE);
        impossible(withSixFields(), "g5;g5", 1);
        AcreOffice full = new AcreOffice();
        for (int k = 0; k < 11; k++) {
            full.addLeg(1, 1, 1);
        }
        impossible(full, "e1n1l1;e1n1l1", 1);
        impossible(full, "e1n1l1;b;e1n1l1;b", AcreOffice.NONE);
    }

    private static void carryOut() {
        AcreOffice x = new AcreOffice();
        Check.type(x, "e300n20l400");
        Check.number("P11 one order", x.carryOut(), 1);
        Check.number("P11 the leg", x.traverseLength(), 400);
        Check.number("P11 to the east", x.errorEast(), 300);
        Check.number("P11 to the north", x.errorNorth(), 20);
        Check.number("P9 the text stays", x.textError(), AcreOffice.NONE);
        Check.number("P11 once more", x.carryOut(), 1);
        Check.number("P11 two legs", x.legs(), 2);
        Check.number("P8 the text stayed", x.clearText(), 11);
        Check.type(x, "b;w7s8l20000");
        Check.number("P11 two orders", x.carryOut(), 2);
        Check.number("P11 to the west", x.errorEast(), 293);
        Check.number("P11 to the south", x.errorNorth(), 12);
        Check.number("P11 length", x.traverseLength(), 20400);
        Check.retype(x, "b;e7s9l30");
        x.carryOut();
        Check.number("P11 to the east", x.errorEast(), 307);
        Check.number("P11 and to the south", x.errorNorth(), 11);
        Check.retype(x, "b;w8n10l30");
        x.carryOut();
        Check.number("P11 to the west", x.errorEast(), 292);
        Check.number("P11 and to the north", x.errorNorth(), 30);
        Check.retype(x, "b;b;e9999n9999l1");
        Check.number("P11 three orders", x.carryOut(), 3);
        Check.number("P11 greatest part", x.errorEast(), 9999);
        Check.retype(x, "b;w9999s9999l10");
        x.carryOut();
        Check.number("P11 least part", x.errorEast(), -9999);
        Check.number("P11 least part", x.errorNorth(), -9999);
        Check.number("P11 a length of two digits", x.traverseLength(), 10);
    }

    private static void carryOutAsOneAction() {
        AcreOffice x = new AcreOffice();
        Check.keepCorners(x, 3, 4, 103, 4, 3, 104);
        Check.keepCorners(x, 0, 0, 200, 0, 0, 200);
        String before = Check.stateOf(x);
        Check.type(x, "e100n0l99;e0n100l99;w100s99l99;k;g0;g1");
        Check.number("P11 six orders", x.carryOut(), 6);
        Check.number("P11 one field is left", x.fields(), 1);
        Check.number("P11 the right one", x.cornerEast(0, 1), 200);
        Check.number("P11 no legs", x.legs(), 0);
        x.undo();
        Check.same("P11 is one action", Check.stateOf(x), before);
        Check.retype(x, "e100n0l99;e0n100l99;w100s99l99;k");
        Check.number("P11 four orders", x.carryOut(), 4);
        Check.number("P11 an error is shared out", x.cornerNorth(2, 2), 100);
    }

    private static void carryOutThatFails() {
        AcreOffice x = new AcreOffice();
        Check.keepCorners(x, 0, 0, 100, 0, 0, 100);
        x.addLeg(1, 2, 3);
        Check.type(x, "e100n0l99;g0;b;b;b");
        Check.badState("P11 the last order fails", x, x::carryOut);
        Check.number("P10 it is", x.impossibleOrder(), 4);
        Check.number("P8 the text stays", x.clearText(), 18);
    }

    private static void legsOfATextThatIsUsedAgain() {
        AcreOffice x = new AcreOffice();
        Check.type(x, "w5s6l7;g3");
        Check.number("P10 g3", x.impossibleOrder(), 1);
        Check.retype(x, "e0n0l1;e0n0l1");
        x.carryOut();
        Check.number("P11 nothing of the old text is left", x.errorEast(), 0);
        Check.number("P11 nothing of the old text is left", x.traverseLength(), 2);
        Check.number("P7 a text grows on after its reading", x.type('0'), 14);
        Check.number("P11 grown", x.carryOut(), 2);
        Check.number("P11 grown", x.traverseLength(), 13);
    }

    private static void theTextIsNoState() {
        AcreOffice x = new AcreOffice();
        x.addLeg(1, 1, 1);
        x.takeSnapshot();
        Check.type(x, "b;");
        x.undo();
        Check.number("P12 the text stays", x.textError(), 2);
        x.restoreSnapshot();
        Check.number("P14 the text stays", x.clearText(), 2);
        x.undo();
        Check.number("P8 a cleared text stays cleared", x.clearText(), 0);
    }
}
