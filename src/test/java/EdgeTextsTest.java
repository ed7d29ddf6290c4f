/** Edges that "Texts" and promises 13 to 16 name: put, wipe, fault, carryOut. */
public final class EdgeTextsTest {
    public static void main(String[] args) {
        thePadHas60Characters();
        aTextIsARowOfOrders();
        anOrderBeginsWithOneOfFourLetters();
        eachOrderIsItsCall();
        aNumberIs0To99();
        aNumberHasNoLeadingZeros();
        aBoxIsADigitFrom0To7();
        theFaultIsTheFirstThatCannotStand();
        aDigitThatMakesMoreThan99CannotStand();
        aTextThatEndsTooEarlyHasItsLength();
        theLowestBitsAreTheLastCharacter();
        moreCharactersAreNotBehind0();
        putTakes1To8Characters();
        putWantsACharacter();
        aCodeIs33To126();
        noBitIsSetAboveA0();
        putWantsAtMost60();
        wipeReturnsTheLength();
        thereIsNoneWithoutAFault();
        ordersAreCarriedOutUpToTheFirstError();
        everyErrorOfAnOrderEndsIt();
        carryOutEmptiesThePad();
        carryOutIsOneChange();
        carryOutReturnsHowMany();
        badTextStays();
        Due.end();
    }

    private static BeltMarks with(String text) {
        BeltMarks marks = new BeltMarks();
        Due.type(marks, text);
        return marks;
    }

    private static void fault(String text, int due) {
        BeltMarks marks = with(text);
        Due.is("fault of '" + text + "'", marks.fault(), due);
        Due.is("length of '" + text + "'", marks.count(22), text.length());
        Due.is("carryOut of '" + text + "' is refused", marks.carryOut() == BeltMarks.BAD_TEXT ? 1 : 0,
            due == BeltMarks.NONE ? 0 : 1);
    }

    private static void thePadHas60Characters() {
        Due.says("The pad is a text of at most 60 characters, a row of orders");
        String sixty = "w1;".repeat(18) + "b4;w10";
        BeltMarks marks = with(sixty.substring(0, 59));
        Due.is("59", marks.count(22), 59);
        Due.is("fault of 59", marks.fault(), BeltMarks.NONE);
        Due.is("the 60th", marks.put('0'), 60);
        Due.is("fault of 60", marks.fault(), BeltMarks.NONE);
        Due.is("the 61st", marks.put('0'), BeltMarks.TOO_MANY);
        Due.is("60 yet", marks.count(22), 60);
        Due.is("carryOut of 60", marks.carryOut(), 20);
        Due.is("all of it", marks.count(0), 28);
    }

    private static void aTextIsARowOfOrders() {
        Due.says("text = order { \";\" order }");
        fault("", 0);
        fault("w1", BeltMarks.NONE);
        fault("w1;w2", BeltMarks.NONE);
        fault("w1;w2;w3", BeltMarks.NONE);
        fault(";", 0);
        fault(";w1", 0);
        fault("w1;", 3);
        fault("w1;;w2", 3);
        fault("w1w2", 2);
        fault("w1:w2", 2);
        fault("w1<w2", 2);
        fault("w10w2", 3);
        fault("w0w2", 2);
        fault("w1,w2", 2);
        fault("w1;2", 3);
    }

    private static void anOrderBeginsWithOneOfFourLetters() {
        Due.says("order = \"b\" number | \"w\" number | \"s\" number | \"t\" box \"=\" number");
        for (char letter = 33; letter <= 126; letter++) {
            boolean number = letter == 'b' || letter == 'w' || letter == 's';
            fault(letter + "5", number ? BeltMarks.NONE : letter == 't' ? 2 : 0);
            fault("w5;" + letter + "5", number ? BeltMarks.NONE : letter == 't' ? 5 : 3);
            fault(letter + "5=5", number ? 2 : letter == 't' ? BeltMarks.NONE : 0);
        }
        fault("t0:5", 2);
        fault("t0<5", 2);
        fault("t0>5", 2);
        fault("t05", 2);
        fault("t0==5", 3);
        fault("t=5", 1);
    }

    private static void eachOrderIsItsCall() {
        Due.says("\"b\": arrive() with a length; \"w\": pass() some ticks; \"s\": set() of SPEED; \"t\": turn() of a box to a length.");
        BeltMarks marks = with("b10");
        Due.is("b10", marks.carryOut(), 1);
        Due.is("a box", marks.count(1) * 100 + marks.box(0, 1), 110);
        Due.type(marks, "w4");
        Due.is("w4", marks.carryOut(), 1);
        Due.is("ticks", marks.count(0), 4);
        Due.is("front", marks.box(0, 0), 1012);
        Due.type(marks, "s9");
        Due.is("s9", marks.carryOut(), 1);
        Due.is("speed", marks.count(14), 9);
        Due.is("LATE is as before", marks.count(15), 2);
        Due.type(marks, "t0=13");
        Due.is("t0=13", marks.carryOut(), 1);
        Due.is("length", marks.box(0, 1), 13);
        Due.is("front", marks.box(0, 0), 1013);
        BeltMarks eight = Belts.row(8);
        Due.type(eight, "t7=5;t0=5;t3=5");
        Due.is("turns", eight.carryOut(), 3);
        for (int box = 0; box < 8; box++) {
            Due.is("length of " + box, eight.box(box, 1), box == 7 || box == 0 || box == 3 ? 5 : 4);
        }
    }

    private static void aNumberIs0To99() {
        Due.says("A number is 0 to 99, without leading zeros, a box a digit from 0 to 7.");
        for (int number = 0; number <= 99; number++) {
            fault("w" + number, BeltMarks.NONE);
            fault("t5=" + number, BeltMarks.NONE);
        }
        fault("w100", 3);
        fault("w999", 3);
        fault("b100", 3);
        fault("s100", 3);
        fault("t0=100", 5);
        fault("w-1", 1);
        fault("w+1", 1);
        fault("w/", 1);
        fault("w:", 1);
        fault("w1/", 2);
        fault("w1:", 2);
        fault("w10/", 3);
        BeltMarks marks = with("w99");
        Due.is("w99", marks.carryOut(), 1);
        Due.is("ticks", marks.count(0), 99);
        Due.type(marks, "w10;w9");
        Due.is("w10;w9", marks.carryOut(), 2);
        Due.is("ticks", marks.count(0), 118);
    }

    private static void aNumberHasNoLeadingZeros() {
        Due.says("A number is 0 to 99, without leading zeros");
        String[] letters = {"b", "w", "s", "t0="};
        for (String letter : letters) {
            int at = letter.length() + 1;
            fault(letter + "0", BeltMarks.NONE);
            fault(letter + "00", at);
            fault(letter + "01", at);
            fault(letter + "09", at);
            fault(letter + "0;w1", BeltMarks.NONE);
            fault(letter + "10", BeltMarks.NONE);
            fault(letter + "1;w0", BeltMarks.NONE);
        }
    }

    private static void aBoxIsADigitFrom0To7() {
        Due.says("a box a digit from 0 to 7");
        for (char box = 33; box <= 126; box++) {
            fault("t" + box, box >= '0' && box <= '7' ? 2 : 1);
            fault("t" + box + "=9", box >= '0' && box <= '7' ? BeltMarks.NONE : 1);
        }
        fault("t00=9", 2);
        fault("t77=9", 2);
        fault("t10=9", 2);
    }

    private static void theFaultIsTheFirstThatCannotStand() {
        Due.says("The fault is the index of the first character that cannot stand at its place when the text is read from left to right");
        fault("x", 0);
        fault("xy", 0);
        fault("b4;xy", 3);
        fault("b4x;y", 2);
        fault("bx;x", 1);
        fault("t1=4;t8=4;t9=4", 6);
        String start = "w1;".repeat(19);
        fault(start + "w1x", 59);
        fault(start + "w1;", 60);
        fault(start + "w10", BeltMarks.NONE);
        fault(start + "x", 57);
        for (char sign = 33; sign <= 126; sign++) {
            boolean digit = sign >= '0' && sign <= '9';
            fault("w5" + sign, digit ? BeltMarks.NONE : sign == ';' ? 3 : 2);
            fault("w0" + sign, sign == ';' ? 3 : 2);
            fault("w55" + sign, sign == ';' ? 4 : 3);
            fault("w" + sign, digit ? BeltMarks.NONE : 1);
            fault("t0" + sign, sign == '=' ? 3 : 2);
            fault("t0=" + sign, digit ? BeltMarks.NONE : 3);
        }
    }

    private static void aDigitThatMakesMoreThan99CannotStand() {
        Due.says("(also of a digit by which a number would be above 99)");
        fault("w99", BeltMarks.NONE);
        fault("w100", 3);
        fault("w990", 3);
        fault("w100;x", 3);
        fault("w1000", 3);
        fault("w1;w123;w1", 6);
        fault("t7=99", BeltMarks.NONE);
        fault("t7=990", 5);
    }

    private static void aTextThatEndsTooEarlyHasItsLength() {
        Due.says("if there is none and the text ends too early (also if it is empty), it is the length of the text");
        fault("", 0);
        fault("b", 1);
        fault("w", 1);
        fault("s", 1);
        fault("t", 1);
        fault("t7", 2);
        fault("t7=", 3);
        fault("t7=4", BeltMarks.NONE);
        fault("t7=4;", 5);
        fault("t7=4;b", 6);
        fault("t7=4;b4", BeltMarks.NONE);
        String start = "w1;".repeat(19);
        fault(start, 57);
        fault(start + "t", 58);
        fault(start + "t0", 59);
        fault(start + "t0=", 60);
    }

    private static void theLowestBitsAreTheLastCharacter() {
        Due.says("its lowest 8 bits are the last character, the next 8 bits the one before, and so on");
        BeltMarks marks = new BeltMarks();
        Due.is("put b4", marks.put('b' << 8 | '4'), 2);
        Due.is("fault of b4", marks.fault(), BeltMarks.NONE);
        Due.is("put ;w12;s9 without its end", marks.put(Due.packed(";w12;s")), 8);
        Due.is("put its end", marks.put('9'), 9);
        Due.is("carried out", marks.carryOut(), 3);
        Due.is("ticks", marks.count(0), 12);
        Due.is("speed", marks.count(14), 9);
        BeltMarks other = new BeltMarks();
        Due.is("put 4b", other.put('4' << 8 | 'b'), 2);
        Due.is("fault of 4b", other.fault(), 0);
    }

    private static void moreCharactersAreNotBehind0() {
        Due.says("8 bits that are 0 mean that there are no more characters, and everything above them has to be 0, too");
        String signs = "w1;w2;w3";
        for (int many = 1; many <= 8; many++) {
            BeltMarks marks = new BeltMarks();
            Due.is("put " + many, marks.put(Due.packed(signs.substring(0, many))), many);
            Due.is("length", marks.count(22), many);
        }
        for (int zero = 0; zero < 7; zero++) {
            for (int bit = 8 * zero + 8; bit < 64; bit++) {
                long characters = Due.packed(signs.substring(0, zero)) | 1L << bit;
                BeltMarks marks = new BeltMarks();
                Due.is("0 at " + zero + ", bit " + bit + " is 1", marks.put(characters), BeltMarks.BAD_VALUE);
                Due.is("length", marks.count(22), 0);
            }
        }
    }

    private static void putTakes1To8Characters() {
        Due.says("`characters`: 1 to 8 characters");
        BeltMarks marks = new BeltMarks();
        Due.is("none", marks.put(0), BeltMarks.BAD_VALUE);
        Due.is("one", marks.put('w'), 1);
        Due.is("eight", marks.put(Due.packed("1;w2;w34")), 9);
        Due.is("fault", marks.fault(), BeltMarks.NONE);
        Due.is("carryOut", marks.carryOut(), 3);
        Due.is("ticks", marks.count(0), 37);
    }

    private static void putWantsACharacter() {
        Due.says("BAD_VALUE if there is no character, a code is not 33 to 126, or a bit above 8 bits that are 0 is not 0");
        BeltMarks marks = new BeltMarks();
        Due.is("put(0)", marks.put(0), BeltMarks.BAD_VALUE);
        Due.is("put(256 * 'w')", marks.put('w' << 8), BeltMarks.BAD_VALUE);
        Due.is("length", marks.count(22), 0);
        Due.is("put('w')", marks.put('w'), 1);
        Due.is("put(0) behind it", marks.put(0), BeltMarks.BAD_VALUE);
        Due.is("length", marks.count(22), 1);
    }

    private static void aCodeIs33To126() {
        Due.says("a code is not 33 to 126");
        for (int place = 0; place < 8; place++) {
            for (int code = 1; code <= 255; code++) {
                // The character at this place, and those that are not above it are 'w'.
                long characters = Due.packed("w".repeat(place)) | (long) code << 8 * place;
                BeltMarks marks = new BeltMarks();
                boolean right = code >= 33 && code <= 126;
                Due.is("code " + code + " at " + place, marks.put(characters), right ? place + 1 : BeltMarks.BAD_VALUE);
                Due.is("length", marks.count(22), right ? place + 1 : 0);
            }
        }
        int[] codes = {32, 33, 126, 127, 128, 255};
        for (int place = 0; place < 8; place++) {
            for (int code : codes) {
                long others = 0x7777777777777777L & ~(255L << 8 * place);
                BeltMarks marks = new BeltMarks();
                int due = code == 33 || code == 126 ? 8 : BeltMarks.BAD_VALUE;
                Due.is("code " + code + " at " + place + " of 8", marks.put(others | (long) code << 8 * place), due);
            }
        }
        Due.is("-1", new BeltMarks().put(-1), BeltMarks.BAD_VALUE);
        Due.is("the least", new BeltMarks().put(Long.MIN_VALUE), BeltMarks.BAD_VALUE);
        Due.is("the greatest", new BeltMarks().put(Long.MAX_VALUE), BeltMarks.BAD_VALUE);
    }

    private static void noBitIsSetAboveA0() {
        Due.says("or a bit above 8 bits that are 0 is not 0");
        long[] wrong = {0x6200L, 0x620062L, 0x62000062L, 0x6200000000000062L, 0x0100000000000062L, 0x8000000000000062L,
            0x6262626262620062L, 0x6200626262626262L, 0x100L, 1L << 32, 1L << 63};
        for (long characters : wrong) {
            Due.is(Long.toHexString(characters), new BeltMarks().put(characters), BeltMarks.BAD_VALUE);
        }
        Due.is("7 below a 0", new BeltMarks().put(0x0062626262626262L), 7);
        Due.is("8 without a 0", new BeltMarks().put(0x6262626262626262L), 8);
    }

    private static void putWantsAtMost60() {
        Due.says("TOO_MANY if the pad would be longer than 60");
        for (int before = 51; before <= 60; before++) {
            for (int many = 1; many <= 8; many++) {
                BeltMarks marks = with("w".repeat(before));
                boolean fits = before + many <= 60;
                Due.is(before + " and " + many, marks.put(Due.packed("w".repeat(many))), fits ? before + many : BeltMarks.TOO_MANY);
                Due.is("length", marks.count(22), fits ? before + many : before);
            }
        }
    }

    private static void wipeReturnsTheLength() {
        Due.says("Empties the pad, and returns the length that it had.");
        int[] lengths = {0, 1, 59, 60};
        for (int length : lengths) {
            BeltMarks marks = with("w".repeat(length));
            Due.is("wipe of " + length, marks.wipe(), length);
            Due.is("length", marks.count(22), 0);
            Due.is("fault", marks.fault(), 0);
            Due.is("wipe again", marks.wipe(), 0);
            Due.is("changes", marks.count(23), 0);
            Due.type(marks, "b4");
            Due.is("the new text alone", marks.carryOut(), 1);
        }
    }

    private static void thereIsNoneWithoutAFault() {
        Due.says("Returns the fault of the pad, NONE if there is none.");
        BeltMarks marks = new BeltMarks();
        Due.is("empty", marks.fault(), 0);
        marks.put('w');
        Due.is("w", marks.fault(), 1);
        marks.put('1');
        Due.is("w1", marks.fault(), BeltMarks.NONE);
        marks.put('2');
        Due.is("w12", marks.fault(), BeltMarks.NONE);
        marks.put('3');
        Due.is("w123", marks.fault(), 3);
        Due.is("again", marks.fault(), 3);
        Due.is("the pad stays", marks.count(22), 4);
    }

    /** Carries out orders on a belt with a row of boxes, then tells by SPEED whether the last one was. */
    private static void carried(int boxes, String text, int due, boolean toTheEnd) {
        BeltMarks marks = Belts.row(boxes);
        int changes = marks.count(23);
        Due.type(marks, text + ";s8");
        Due.is("carryOut of " + text + ";s8", marks.carryOut(), due);
        Due.is("then the speed", marks.count(14), toTheEnd ? 8 : 3);
        Due.is("then the pad", marks.count(22), 0);
        Due.is("then the changes", marks.count(23), Math.min(changes + 1, 6));
    }

    private static void ordersAreCarriedOutUpToTheFirstError() {
        Due.says("Carries the orders of the pad out, one after the other, up to the first one that returns an error, and empties the pad.");
        carried(0, "w1", 2, true);
        carried(0, "w0", 0, false);
        carried(0, "w1;w0", 1, false);
        carried(0, "w0;w1", 0, false);
        carried(0, "w1;w1;w0;w1;w1", 2, false);
        carried(0, "b4;w2;b4;w2;b4", 6, true);
        carried(0, "b4;w1;b4;w2;b4", 2, false);
        BeltMarks order = with("s5;w1;s9;w1;s1;w1");
        Due.is("one after the other", order.carryOut(), 6);
        Due.is("way", order.count(13), 15);
    }

    private static void everyErrorOfAnOrderEndsIt() {
        Due.says("up to the first one that returns an error");
        carried(0, "b3", 0, false);
        carried(0, "b4", 2, true);
        carried(0, "b30", 2, true);
        carried(0, "b31", 0, false);
        carried(0, "b0", 0, false);
        carried(0, "b99", 0, false);
        carried(1, "b4", 0, false);
        carried(7, "w2;b4", 3, true);
        carried(8, "w2;b4", 1, false);
        carried(0, "w0", 0, false);
        carried(0, "w1", 2, true);
        carried(0, "w99", 2, true);
        carried(0, "s9", 2, true);
        carried(0, "s10", 0, false);
        carried(0, "s99", 0, false);
        carried(3, "t3=4", 0, false);
        carried(3, "t2=4", 2, true);
        carried(3, "t2=3", 0, false);
        carried(3, "t2=31", 0, false);
        carried(3, "t2=6", 2, true);
        carried(3, "t2=8", 0, false);
        // 0 is no error: set() and pass() return it, and arrive() does for the first box.
        carried(0, "s0;s0;s0", 4, true);
        // A front that is returned with 1000 is no error, if it is below 0, too.
        carried(0, "b30;t0=4", 3, true);
        BeltMarks last = new BeltMarks();
        Belts.pass(last, 19999);
        Due.type(last, "w1;w1;s8");
        Due.is("the ticks end", last.carryOut(), 1);
        Due.is("ticks", last.count(0), 20000);
        Due.is("speed", last.count(14), 3);
    }

    private static void carryOutEmptiesThePad() {
        Due.says("and empties the pad. This is a change (one, with all of them; also if none is carried out).");
        String[] texts = {"w1", "w0", "w1;w0", "w0;w1", "w1;".repeat(19) + "w10"};
        int[] done = {1, 0, 1, 0, 20};
        for (int i = 0; i < texts.length; i++) {
            BeltMarks marks = with(texts[i]);
            Due.is("carryOut of " + texts[i], marks.carryOut(), done[i]);
            Due.is("length", marks.count(22), 0);
            Due.is("nothing to wipe", marks.wipe(), 0);
            Due.is("an empty pad", marks.carryOut(), BeltMarks.BAD_TEXT);
        }
    }

    private static void carryOutIsOneChange() {
        Due.says("This is a change (one, with all of them; also if none is carried out).");
        String[] texts = {"w0", "w1", "w1;w1", "w1;w0;w1", "s4;s5;s6;s7;s8;b4;w1;w1"};
        for (String text : texts) {
            BeltMarks marks = with(text);
            marks.set(BeltMarks.NEAR, 5);
            String before = Belts.state(marks);
            marks.carryOut();
            Due.is(text + ": changes", marks.count(23), 2);
            Due.is(text + ": undo", marks.undo(), 1);
            Due.same(text + ": undone", Belts.state(marks), before);
            Due.is(text + ": the pad stays empty", marks.count(22), 0);
            Due.is(text + ": undo of the change before", marks.undo(), 0);
            Due.is(text + ": NEAR", marks.count(21), 2);
        }
    }

    private static void carryOutReturnsHowMany() {
        Due.says("Returns how many orders were carried out; BAD_TEXT if the pad has a fault (then it stays).");
        for (int orders = 1; orders <= 20; orders++) {
            BeltMarks marks = with("w1;".repeat(orders - 1) + "w1");
            Due.is(orders + " orders", marks.carryOut(), orders);
            Due.is("ticks", marks.count(0), orders);
        }
        for (int good = 0; good < 20; good++) {
            BeltMarks marks = with("w1;".repeat(good) + "w0" + ";w1".repeat(19 - good));
            Due.is("the error behind " + good, marks.carryOut(), good);
            Due.is("ticks", marks.count(0), good);
        }
    }

    private static void badTextStays() {
        Due.says("BAD_TEXT if the pad has a fault (then it stays)");
        String[] texts = {"", "w", "w1;", "w1;x", "x;w1", "w100", "t8=4", "w1;".repeat(20), "w".repeat(60)};
        for (String text : texts) {
            BeltMarks marks = with(text);
            int fault = marks.fault();
            Due.is("carryOut of '" + text + "'", marks.carryOut(), BeltMarks.BAD_TEXT);
            Due.is("length", marks.count(22), text.length());
            Due.is("fault", marks.fault(), fault);
            Due.is("ticks", marks.count(0), 0);
            Due.is("changes", marks.count(23), 0);
        }
        BeltMarks mended = with("w1;");
        Due.is("BAD_TEXT", mended.carryOut(), BeltMarks.BAD_TEXT);
        Due.type(mended, "w2");
        Due.is("mended", mended.carryOut(), 2);
        Due.is("ticks", mended.count(0), 3);
    }
}
