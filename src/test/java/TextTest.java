/** Promises 13 to 16: put, wipe, fault, carryOut. */
public final class TextTest {
    public static void main(String[] args) {
        putAppends();
        putRefusesWrongNumbers();
        putTakesSixtyCharacters();
        wipeEmptiesThePad();
        faultIsTheFirstSignThatCannotStand();
        carryOutWantsAText();
        carryOutDoesEachOrder();
        carryOutStopsAtAnError();
        carryOutIsOneChange();
        Due.end();
    }

    private static void putAppends() {
        for (int many = 1; many <= 8; many++) {
            BeltMarks marks = new BeltMarks();
            Due.is("put " + many, marks.put(Due.packed("b4;w10;w".substring(0, many))), many);
            Due.is("length " + many, marks.count(22), many);
        }
        BeltMarks marks = new BeltMarks();
        Due.is("put b", marks.put('b'), 1);
        Due.is("put 12", marks.put('1' << 8 | '2'), 3);
        Due.is("put ;s9", marks.put(Due.packed(";s9")), 6);
        Due.is("in their order", marks.carryOut(), 2);
        Due.is("a box of 12", marks.box(0, 1), 12);
        Due.is("speed 9", marks.count(14), 9);
        BeltMarks edges = new BeltMarks();
        Due.is("put 33", edges.put(33), 1);
        Due.is("put 126", edges.put(126), 2);
        Due.is("put eight times 126", edges.put(0x7e7e7e7e7e7e7e7eL), 10);
        Due.is("put eight times 33", edges.put(0x2121212121212121L), 18);
    }

    private static void putRefusesWrongNumbers() {
        long[] wrong = {0, 32, 127, 128, 255, 1, 31, -1, Long.MIN_VALUE, Long.MAX_VALUE, 0x6200L, 0x620033L,
            0x6220L, 0x2062L, 0x627fL, 0x7f62L, 0x6200000000000000L, 0x6200000000000062L, 0x0100000000000062L,
            0xe262626262626262L, 0x2062626262626262L, 0x8000000000000062L, 0x62626262626262a0L, 1L << 32};
        for (long characters : wrong) {
            BeltMarks marks = new BeltMarks();
            marks.put('b');
            Due.is("put(" + Long.toHexString(characters) + ")", marks.put(characters), BeltMarks.BAD_VALUE);
            Due.is("length", marks.count(22), 1);
        }
    }

    private static void putTakesSixtyCharacters() {
        BeltMarks marks = new BeltMarks();
        for (int i = 1; i <= 7; i++) {
            Due.is("put 8", marks.put(Due.packed("w1;w1;w1")), 8 * i);
        }
        Due.is("56 and 5", marks.put(Due.packed("w1;w1")), BeltMarks.TOO_MANY);
        Due.is("56 and 8", marks.put(Due.packed("w1;w1;w1")), BeltMarks.TOO_MANY);
        Due.is("length", marks.count(22), 56);
        Due.is("56 and 4", marks.put(Due.packed("w1;w")), 60);
        Due.is("60 and 1", marks.put('w'), BeltMarks.TOO_MANY);
        Due.is("60 and a wrong one", marks.put(0), BeltMarks.BAD_VALUE);
        Due.is("60 and a wrong code", marks.put(127), BeltMarks.BAD_VALUE);
        Due.is("length", marks.count(22), 60);
        Due.is("nothing recorded", marks.count(23), 0);
    }

    private static void wipeEmptiesThePad() {
        BeltMarks marks = new BeltMarks();
        Due.is("wipe of nothing", marks.wipe(), 0);
        Due.type(marks, "w1;w2;w3;b4");
        Due.is("wipe", marks.wipe(), 11);
        Due.is("length", marks.count(22), 0);
        Due.is("wipe again", marks.wipe(), 0);
        Due.is("put behind it", marks.put('b'), 1);
        Due.is("fault behind it", marks.fault(), 1);
        Due.is("nothing recorded", marks.count(23), 0);
    }

    private static void faultIsTheFirstSignThatCannotStand() {
        String[] right = {"b4", "b0", "b9", "b10", "b99", "w0", "w99", "s9", "s10", "t0=0", "t7=99", "t3=4",
            "b4;w5", "b4;w50;s9;t7=30", "t0=0;t0=0", "w1;w2;w3;w4;w5;w6;w7;w8;w9;b1;b2;b3;b4;b5;b6;b7;b8;b9;s1;s234"
                .substring(0, 59)};
        for (String text : right) {
            Due.is("fault of " + text, faultOf(text), BeltMarks.NONE);
        }
        String[] wrong = {"", "b", "b;", "b00", "b04", "b100", "b990", "b10;", "b4;;", ";", ";b4", "x", "B4", "W1",
            "t", "t8", "t9=4", "t7", "t77", "t7=", "t7=;", "t7=05", "t7=100", "t=3", "t7:3", "b-1", "b4,w5", "b4w5",
            "w1a", "w12a", "w0a", "w00", "b=", "4", "bb", "b4;4", "b4;t", "b4;t1", "b4;t1=", "b4;t1=3;", "s1;x", "a4", "u1=4", "b/", "b:", "t/=4", "w1/", "w1:", "w1<"};
        int[] faults = {0, 1, 1, 2, 2, 3, 3, 4, 3, 0, 0, 0, 0, 0,
            1, 1, 1, 2, 2, 3, 3, 4, 5, 1, 2, 1, 2, 2,
            2, 3, 2, 2, 1, 0, 1, 3, 4, 5, 6, 8, 3, 0, 0, 1, 1, 1, 2, 2, 2};
        Due.is("as many faults as texts", faults.length, wrong.length);
        for (int i = 0; i < wrong.length; i++) {
            Due.is("fault of '" + wrong[i] + "'", faultOf(wrong[i]), faults[i]);
        }
    }

    private static int faultOf(String text) {
        BeltMarks marks = new BeltMarks();
        Due.type(marks, text);
        int fault = marks.fault();
        Due.is("the pad stays", marks.count(22), text.length());
        return fault;
    }

    private static void carryOutWantsAText() {
        String[] wrong = {"", "b", "b4;", "b100", "t8=5", "b4;x"};
        for (String text : wrong) {
            BeltMarks marks = new BeltMarks();
            Due.type(marks, text);
            Due.is("carryOut of '" + text + "'", marks.carryOut(), BeltMarks.BAD_TEXT);
            Due.is("the pad stays", marks.count(22), text.length());
            Due.is("no box", marks.count(1), 0);
            Due.is("nothing recorded", marks.count(23), 0);
        }
    }

    private static void carryOutDoesEachOrder() {
        BeltMarks marks = new BeltMarks();
        Due.type(marks, "s5;b10;w3;t0=30;w12;b4;w0");
        Due.is("carryOut", marks.carryOut(), 6);
        Due.is("ticks", marks.count(0), 15);
        Due.is("way", marks.count(13), 75);
        Due.is("front", marks.box(0, 0), 1000 + 15 + 10 + 60);
        Due.is("length", marks.box(0, 1), 30);
        Due.is("the other", marks.box(1, 0), 1000);
        Due.is("the pad is empty", marks.count(22), 0);
        Due.is("an empty pad", marks.carryOut(), BeltMarks.BAD_TEXT);
        Due.type(marks, "t1=7");
        Due.is("turn the other", marks.carryOut(), 1);
        Due.is("the other, turned", marks.box(1, 0) * 100 + marks.box(1, 1), 100107);
    }

    private static void carryOutStopsAtAnError() {
        String[] texts = {"b3", "b31", "b4;b4;s9", "s10;b4", "w0;b4", "t0=5", "b4;t0=3;s9", "b4;t1=5;s9", "b4;w99;w1;w0;s9"};
        int[] done = {0, 0, 1, 0, 0, 0, 1, 1, 3};
        for (int i = 0; i < texts.length; i++) {
            BeltMarks marks = new BeltMarks();
            Due.type(marks, texts[i]);
            Due.is("carryOut of " + texts[i], marks.carryOut(), done[i]);
            Due.is("the pad is empty", marks.count(22), 0);
            Due.is("the speed", marks.count(14), 3);
            Due.is("one change", marks.count(23), 1);
            Due.is("undo", marks.undo(), 0);
            Due.is("ticks", marks.count(0), 0);
            Due.is("boxes", marks.count(2), 0);
        }
    }

    private static void carryOutIsOneChange() {
        BeltMarks marks = new BeltMarks();
        marks.set(BeltMarks.SPEED, 4);
        Due.type(marks, "s5;s6;s7;s8;b4;w1;w1;w1");
        Due.is("carryOut", marks.carryOut(), 8);
        Due.is("two changes", marks.count(23), 2);
        Due.type(marks, "s2");
        Due.is("undo", marks.undo(), 1);
        Due.is("speed", marks.count(14), 4);
        Due.is("boxes", marks.count(2), 0);
        Due.is("the pad stays as it is", marks.count(22), 2);
    }
}
