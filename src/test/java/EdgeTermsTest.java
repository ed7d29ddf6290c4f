import java.util.function.Supplier;
import java.util.function.ToIntFunction;

/** Edges that "Terms" names ahead of the tick: the conventions, the settings, the belt and its boxes. */
public final class EdgeTermsTest {
    private static final int[] LOWEST = {0, 0, 0, 0, 1, 1, 0, 0};
    private static final int[] HIGHEST = {9, 5, 5, 20, 20, 60, 9, 9};
    private static final int[] AT_FIRST = {3, 2, 2, 4, 6, 20, 1, 2};

    public static void main(String[] args) {
        anObjectIsUsedForAtMost512Calls();
        aFrontCanComeFarBelow0();
        errorsHaveTheirNumbers();
        theFirstErrorThatAppliesIsReturned();
        errorsOfChangesChangeNothing();
        errorsOfTheOthersChangeNothing();
        errorsOnAFullBeltChangeNothing();
        errorsAtTheLastTickChangeNothing();
        errorsOfANewObjectChangeNothing();
        noneIsNoError();
        everythingIsNumberedFrom0();
        settingsHaveRangesAndFirstValues();
        marksUseTheLabelAtItsRange();
        theSensorIsAt20();
        theMarkerIsAt60();
        theEndIsAt100();
        aFrontCanBeBelow0();
        aLengthIs4To30();
        theBackIsTheFrontLessTheLength();
        upTo8BoxesAreOnTheBelt();
        betweenTwoIsAlways1OrMore();
        thoseBehindMoveUp();
        theSlackIs20AtFirst();
        Due.end();
    }

    private static void anObjectIsUsedForAtMost512Calls() {
        Due.says("An object is used for at most 512 calls after it has been made");
        BeltMarks marks = new BeltMarks();
        for (int call = 1; call <= 255; call++) {
            Due.is("set, call " + (2 * call - 1), marks.set(BeltMarks.FEED, call % 10), call == 1 ? 1 : (call - 1) % 10);
            Due.is("pass, call " + 2 * call, marks.pass(99), 99 * call <= 20000 ? 0 : BeltMarks.TOO_MANY);
        }
        Due.is("undo, call 511", marks.undo(), 5);
        Due.is("count, call 512", marks.count(0), 202 * 99);
    }

    private static void aFrontCanComeFarBelow0() {
        Due.says("Numbers that can be below 0 are returned with more, as told.");
        BeltMarks marks = new BeltMarks();
        marks.arrive(4);
        // 12 orders a text, each two of them a place back; 10 calls a text with those of Due.type().
        String text = "t0=5;t0=4;".repeat(5) + "t0=5;t0=4";
        for (int texts = 1; texts <= 50; texts++) {
            Due.type(marks, text);
            Due.is("carryOut", marks.carryOut(), 12);
        }
        Due.is("front", marks.box(0, 0), 1000 - 6 * 50);
        Due.is("turn", marks.turn(0, 30), 1000 - 6 * 50 + 13);
    }

    private static void errorsHaveTheirNumbers() {
        Due.says("NO_SUCH (-1), BAD_VALUE (-2), BAD_TEXT (-3), TOO_MANY (-4) and NOT_POSSIBLE (-5)");
        BeltMarks marks = new BeltMarks();
        Due.is("box(0, 0) of none", marks.box(0, 0), -1);
        Due.is("arrive(3)", marks.arrive(3), -2);
        Due.is("carryOut of nothing", marks.carryOut(), -3);
        Due.is("arrive a ninth time", Belts.row(8).arrive(4), -4);
        Due.is("undo of nothing", marks.undo(), -5);
        Due.is("neededSlack", starving().neededSlack(22), -6);
    }

    /** No slack of now is enough for the mark that is due in tick 22. */
    private static BeltMarks starving() {
        BeltMarks marks = new BeltMarks();
        marks.set(BeltMarks.SLACK, 5);
        marks.arrive(10);
        return marks;
    }

    private static void theFirstErrorThatAppliesIsReturned() {
        Due.says("it names its errors in the order in which they are checked, and the first one that applies is returned");
        BeltMarks full = Belts.row(8);
        Due.is("eight boxes, no room: arrive(3)", full.arrive(3), BeltMarks.BAD_VALUE);
        Due.is("eight boxes, no room: arrive(31)", full.arrive(31), BeltMarks.BAD_VALUE);
        Due.is("eight boxes, no room: arrive(4)", full.arrive(4), BeltMarks.TOO_MANY);
        Due.is("eight boxes, no room: turn(8, 31)", full.turn(8, 31), BeltMarks.NO_SUCH);
        Due.is("eight boxes, no room: turn(-1, 3)", full.turn(-1, 3), BeltMarks.NO_SUCH);
        Due.is("eight boxes, no room: turn(7, 31)", full.turn(7, 31), BeltMarks.BAD_VALUE);
        Due.is("eight boxes, no room: turn(7, 30)", full.turn(7, 30), BeltMarks.NOT_POSSIBLE);
        Due.is("box(8, 6)", full.box(8, 6), BeltMarks.NO_SUCH);
        Due.is("box(-1, -1)", full.box(-1, -1), BeltMarks.NO_SUCH);
        Due.is("report(9, 2)", full.report(9, 2), BeltMarks.NO_SUCH);
        Due.is("report(-1, -1)", full.report(-1, -1), BeltMarks.NO_SUCH);
        BeltMarks one = Belts.row(1);
        Due.is("no room: arrive(3)", one.arrive(3), BeltMarks.BAD_VALUE);
        Due.is("no room: arrive(31)", one.arrive(31), BeltMarks.BAD_VALUE);
        Due.is("no room: arrive(4)", one.arrive(4), BeltMarks.NOT_POSSIBLE);
        BeltMarks last = atTheLastTick();
        Due.is("at the last tick: pass(0)", last.pass(0), BeltMarks.BAD_VALUE);
        Due.is("at the last tick: pass(100)", last.pass(100), BeltMarks.BAD_VALUE);
        Due.is("at the last tick: pass(1)", last.pass(1), BeltMarks.TOO_MANY);
        BeltMarks pad = fullPad();
        Due.is("a full pad: put(0)", pad.put(0), BeltMarks.BAD_VALUE);
        Due.is("a full pad: put(32)", pad.put(32), BeltMarks.BAD_VALUE);
        Due.is("a full pad: put(33)", pad.put(33), BeltMarks.TOO_MANY);
        Due.is("restore(2), nothing saved", one.restore(2), BeltMarks.BAD_VALUE);
        Due.is("restore(1), nothing saved", one.restore(1), BeltMarks.NOT_POSSIBLE);
    }

    private static BeltMarks atTheLastTick() {
        BeltMarks marks = new BeltMarks();
        Belts.pass(marks, 19999);
        marks.arrive(10);
        marks.pass(1);
        return marks;
    }

    private static BeltMarks fullPad() {
        BeltMarks marks = Belts.row(8);
        Due.type(marks, "w1;".repeat(20));
        return marks;
    }

    /** Compares an object on which a call was refused with one on which it was not made. */
    private static void refused(Supplier<BeltMarks> state, String call, int error, ToIntFunction<BeltMarks> made) {
        BeltMarks asked = state.get();
        BeltMarks other = state.get();
        Due.is(call, made.applyAsInt(asked), error);
        Due.same("behind " + call, Belts.look(asked), Belts.look(other));
        if (asked.count(0) < 20000) {
            Due.same("ahead of " + call, Belts.past(asked), Belts.past(other));
        }
    }

    private static void errorsOfChangesChangeNothing() {
        Due.says("A call that returns an error changes nothing.");
        Supplier<BeltMarks> busy = Belts::busy;
        refused(busy, "set(-1, 0)", BeltMarks.BAD_VALUE, x -> x.set(-1, 0));
        refused(busy, "set(8, 1)", BeltMarks.BAD_VALUE, x -> x.set(8, 1));
        refused(busy, "set(SPEED, -1)", BeltMarks.BAD_VALUE, x -> x.set(BeltMarks.SPEED, -1));
        refused(busy, "set(SLACK, 61)", BeltMarks.BAD_VALUE, x -> x.set(BeltMarks.SLACK, 61));
        refused(busy, "set(LABEL, 0)", BeltMarks.BAD_VALUE, x -> x.set(BeltMarks.LABEL, 0));
        refused(busy, "arrive(3)", BeltMarks.BAD_VALUE, x -> x.arrive(3));
        refused(busy, "arrive(31)", BeltMarks.BAD_VALUE, x -> x.arrive(31));
        refused(busy, "turn(5, 4)", BeltMarks.NO_SUCH, x -> x.turn(5, 4));
        refused(busy, "turn(-1, 4)", BeltMarks.NO_SUCH, x -> x.turn(-1, 4));
        refused(busy, "turn(0, 3)", BeltMarks.BAD_VALUE, x -> x.turn(0, 3));
        refused(busy, "turn(0, 31)", BeltMarks.BAD_VALUE, x -> x.turn(0, 31));
        refused(busy, "pass(0)", BeltMarks.BAD_VALUE, x -> x.pass(0));
        refused(busy, "pass(100)", BeltMarks.BAD_VALUE, x -> x.pass(100));
        refused(busy, "carryOut()", BeltMarks.BAD_TEXT, x -> x.carryOut());
        refused(busy, "restore(1)", BeltMarks.NOT_POSSIBLE, x -> x.restore(1));
        refused(busy, "restore(2)", BeltMarks.BAD_VALUE, x -> x.restore(2));
        refused(busy, "restore(-1)", BeltMarks.BAD_VALUE, x -> x.restore(-1));
    }

    private static void errorsOfTheOthersChangeNothing() {
        Due.says("A call that returns an error changes nothing.");
        Supplier<BeltMarks> busy = Belts::busy;
        refused(busy, "box(5, 0)", BeltMarks.NO_SUCH, x -> x.box(5, 0));
        refused(busy, "box(0, 6)", BeltMarks.BAD_VALUE, x -> x.box(0, 6));
        refused(busy, "plan(9)", BeltMarks.NO_SUCH, x -> x.plan(9));
        refused(busy, "report(9, 0)", BeltMarks.NO_SUCH, x -> x.report(9, 0));
        refused(busy, "report(0, 2)", BeltMarks.BAD_VALUE, x -> x.report(0, 2));
        refused(busy, "count(24)", BeltMarks.BAD_VALUE, x -> x.count(24));
        refused(busy, "ifPass(100, 0)", BeltMarks.BAD_VALUE, x -> x.ifPass(100, 0));
        refused(busy, "ifPass(99, 7)", BeltMarks.BAD_VALUE, x -> x.ifPass(99, 7));
        refused(busy, "bestGuess(0, 0)", BeltMarks.BAD_VALUE, x -> x.bestGuess(0, 0));
        refused(busy, "bestGuess(99, 2)", BeltMarks.BAD_VALUE, x -> x.bestGuess(99, 2));
        refused(busy, "neededSlack(0)", BeltMarks.BAD_VALUE, x -> x.neededSlack(0));
        refused(busy, "put(0)", BeltMarks.BAD_VALUE, x -> x.put(0));
        refused(busy, "put of a good and a wrong one", BeltMarks.BAD_VALUE, x -> x.put(0x6220));
        refused(busy, "put of a wrong and a good one", BeltMarks.BAD_VALUE, x -> x.put(0x2062));
        refused(busy, "put of one behind a gap", BeltMarks.BAD_VALUE, x -> x.put(0x620062));
        refused(busy, "save(2)", BeltMarks.BAD_VALUE, x -> x.save(2));
        refused(busy, "save(-1)", BeltMarks.BAD_VALUE, x -> x.save(-1));
    }

    private static void errorsOnAFullBeltChangeNothing() {
        Due.says("A call that returns an error changes nothing.");
        refused(() -> Belts.row(8), "arrive(4) to eight", BeltMarks.TOO_MANY, x -> x.arrive(4));
        refused(() -> Belts.row(3), "arrive(4) without room", BeltMarks.NOT_POSSIBLE, x -> x.arrive(4));
        refused(() -> Belts.row(8), "turn(3, 30)", BeltMarks.NOT_POSSIBLE, x -> x.turn(3, 30));
        refused(() -> Belts.row(8), "turn(0, 9)", BeltMarks.NOT_POSSIBLE, x -> x.turn(0, 9));
        refused(() -> Belts.row(8), "turn(7, 8)", BeltMarks.NOT_POSSIBLE, x -> x.turn(7, 8));
        refused(EdgeTermsTest::fullPad, "put to 60", BeltMarks.TOO_MANY, x -> x.put('w'));
        refused(EdgeTermsTest::fullPad, "carryOut of 60", BeltMarks.BAD_TEXT, x -> x.carryOut());
    }

    private static void errorsAtTheLastTickChangeNothing() {
        Due.says("A call that returns an error changes nothing.");
        refused(EdgeTermsTest::atTheLastTick, "pass(1)", BeltMarks.TOO_MANY, x -> x.pass(1));
        refused(EdgeTermsTest::atTheLastTick, "pass(99)", BeltMarks.TOO_MANY, x -> x.pass(99));
        BeltMarks near = new BeltMarks();
        Belts.pass(near, 19998);
        near.arrive(10);
        Due.is("no tick of three is done", near.pass(3), BeltMarks.TOO_MANY);
        Due.is("ticks", near.count(0), 19998);
        Due.is("front", near.box(0, 0), 1000);
        Due.is("way", near.count(13), 3 * 19998);
    }

    private static void errorsOfANewObjectChangeNothing() {
        Due.says("A call that returns an error changes nothing.");
        Supplier<BeltMarks> made = BeltMarks::new;
        refused(made, "undo()", BeltMarks.NOT_POSSIBLE, x -> x.undo());
        refused(made, "restore(0)", BeltMarks.NOT_POSSIBLE, x -> x.restore(0));
        refused(made, "carryOut()", BeltMarks.BAD_TEXT, x -> x.carryOut());
        refused(made, "turn(0, 4)", BeltMarks.NO_SUCH, x -> x.turn(0, 4));
        refused(made, "set(SPEED, 10)", BeltMarks.BAD_VALUE, x -> x.set(BeltMarks.SPEED, 10));
        refused(made, "arrive(3)", BeltMarks.BAD_VALUE, x -> x.arrive(3));
        refused(made, "pass(0)", BeltMarks.BAD_VALUE, x -> x.pass(0));
        refused(made, "save(2)", BeltMarks.BAD_VALUE, x -> x.save(2));
    }

    private static void noneIsNoError() {
        Due.says("NONE (-6) is not an error; it is returned only if no error applies.");
        BeltMarks marks = starving();
        Due.is("a box without a mark", marks.box(0, 3), BeltMarks.NONE);
        Due.is("no box", marks.box(1, 3), BeltMarks.NO_SUCH);
        Due.is("no slack does", marks.neededSlack(22), BeltMarks.NONE);
        Due.is("no ticks", marks.neededSlack(0), BeltMarks.BAD_VALUE);
        Due.is("too many ticks", marks.neededSlack(100), BeltMarks.BAD_VALUE);
        Due.type(marks, "w1");
        Due.is("no fault", marks.fault(), BeltMarks.NONE);
        Due.is("NONE stops nothing", marks.carryOut(), 1);
    }

    private static void everythingIsNumberedFrom0() {
        Due.says("Everything is numbered from 0.");
        BeltMarks marks = new BeltMarks();
        Due.is("the first setting", marks.set(0, 9), 3);
        Due.is("the first box on the belt", marks.arrive(4), 0);
        Due.is("the first one that arrived", marks.box(0, 5), 0);
        Due.is("no box before it", marks.box(-1, 5), BeltMarks.NO_SUCH);
        Due.is("no box behind it", marks.box(1, 5), BeltMarks.NO_SUCH);
        marks.pass(3);
        Due.is("the first report", marks.report(0, 1), 7);
        Due.is("no report before it", marks.report(-1, 1), BeltMarks.NO_SUCH);
        Due.is("no report behind it", marks.report(1, 1), BeltMarks.NO_SUCH);
        marks.pass(2);
        Due.is("the first plan", marks.plan(0), 1000 + 44 - 7 - 18);
        Due.is("no plan before it", marks.plan(-1), BeltMarks.NO_SUCH);
        Due.is("no plan behind it", marks.plan(1), BeltMarks.NO_SUCH);
        Due.is("the first slot", marks.save(0), 5);
        Due.is("the second slot", marks.save(1), 5);
        Due.is("no slot before them", marks.save(-1), BeltMarks.BAD_VALUE);
        Due.is("no slot behind them", marks.save(2), BeltMarks.BAD_VALUE);
        Due.type(marks, "xw1");
        Due.is("the first character", marks.fault(), 0);
    }

    private static void settingsHaveRangesAndFirstValues() {
        String[] told = {"SPEED (0 to 9; 3)", "LATE (0 to 5; 2)", "GUESS (0 to 5; 2)", "PLACE (0 to 20; 4)",
            "LABEL (1 to 20; 6)", "SLACK (1 to 60; 20)", "FEED (0 to 9; 1)", "NEAR (0 to 9; 2)"};
        for (int setting = 0; setting < told.length; setting++) {
            Due.says(told[setting]);
            settingHas(setting, LOWEST[setting], HIGHEST[setting], AT_FIRST[setting]);
        }
    }

    private static void settingHas(int setting, int lowest, int highest, int first) {
        BeltMarks marks = new BeltMarks();
        Due.is("at first", marks.count(14 + setting), first);
        int[] wrong = {lowest - 1, highest + 1, lowest - 100, highest + 100, Integer.MIN_VALUE, Integer.MAX_VALUE};
        for (int value : wrong) {
            Due.is("set(" + setting + ", " + value + ")", marks.set(setting, value), BeltMarks.BAD_VALUE);
            Due.is("then", marks.count(14 + setting), first);
        }
        int previous = first;
        for (int value = lowest; value <= highest; value++) {
            Due.is("set(" + setting + ", " + value + ")", marks.set(setting, value), previous);
            Due.is("then", marks.count(14 + setting), value);
            previous = value;
        }
    }

    private static void marksUseTheLabelAtItsRange() {
        Due.says("LABEL (1 to 20; 6), what a mark uses of the slack.");
        for (int label = 1; label <= 20; label++) {
            BeltMarks marks = Belts.slow(0);
            marks.set(BeltMarks.FEED, 0);
            marks.set(BeltMarks.LABEL, label);
            marks.arrive(4);
            marks.pass(60);
            Due.is("slack behind a label of " + label, marks.count(10), 20 - label);
        }
    }

    private static void theSensorIsAt20() {
        Due.says("the sensor is at 20, the marker at 60, the end at 100");
        BeltMarks marks = Belts.slow(0);
        marks.set(BeltMarks.LATE, 5);
        marks.arrive(4);
        marks.pass(19);
        Due.is("front 19: seen", marks.box(0, 2), 0);
        Due.is("front 19: reports", marks.count(11), 0);
        marks.pass(1);
        Due.is("front 20: seen", marks.box(0, 2), 1);
        Due.is("front 20: excess", marks.report(0, 1), 0);
        BeltMarks beyond = Belts.slow(0);
        beyond.set(BeltMarks.LATE, 5);
        beyond.arrive(4);
        beyond.pass(19);
        beyond.set(BeltMarks.SPEED, 2);
        beyond.pass(1);
        Due.is("front 21: seen", beyond.box(0, 2), 1);
        Due.is("front 21: excess", beyond.report(0, 1), 1);
    }

    private static void theMarkerIsAt60() {
        Due.says("the sensor is at 20, the marker at 60, the end at 100");
        for (int place = 0; place <= 3; place++) {
            BeltMarks marks = Belts.slow(place);
            marks.arrive(4);
            marks.pass(59 + place);
            Due.is("place " + place + ", a tick ahead", marks.box(0, 3), BeltMarks.NONE);
            marks.pass(1);
            Due.is("place " + place, marks.box(0, 3), 1000 + place);
        }
    }

    private static void theEndIsAt100() {
        Due.says("the sensor is at 20, the marker at 60, the end at 100");
        int[] lengths = {4, 5, 29, 30};
        for (int length : lengths) {
            BeltMarks marks = Belts.slow(0);
            marks.arrive(length);
            marks.pass(98);
            Due.is("length " + length + ": back 99", marks.pass(length + 1), 0);
            Due.is("length " + length + ": on the belt", marks.count(1), 1);
            Due.is("length " + length + ": back 100", marks.pass(1), 1);
            Due.is("length " + length + ": not on the belt", marks.count(1), 0);
        }
    }

    private static void aFrontCanBeBelow0() {
        Due.says("A box has a front (a place; it can be below 0)");
        BeltMarks marks = new BeltMarks();
        marks.arrive(6);
        Due.is("6 to 8", marks.turn(0, 8), 1001);
        Due.is("front 1", marks.box(0, 0), 1001);
        Due.is("8 to 6", marks.turn(0, 6), 1000);
        Due.is("front 0", marks.box(0, 0), 1000);
        Due.is("6 to 4", marks.turn(0, 4), 999);
        Due.is("front -1", marks.box(0, 0), 999);
        Due.is("it can leave the belt all the same", marks.ifPass(36, 2), 1);
        Due.is("but not before", marks.ifPass(34, 2), 0);
    }

    private static void aLengthIs4To30() {
        Due.says("and a length (4 to 30)");
        int[] wrong = {3, 31};
        int[] right = {4, 5, 29, 30};
        for (int length : wrong) {
            BeltMarks marks = new BeltMarks();
            Due.is("arrive(" + length + ")", marks.arrive(length), BeltMarks.BAD_VALUE);
            marks.arrive(10);
            Due.is("turn(0, " + length + ")", marks.turn(0, length), BeltMarks.BAD_VALUE);
            Due.is("length", marks.box(0, 1), 10);
        }
        for (int length : right) {
            BeltMarks marks = new BeltMarks();
            Due.is("arrive(" + length + ")", marks.arrive(length), 0);
            Due.is("length", marks.box(0, 1), length);
            BeltMarks turned = new BeltMarks();
            turned.arrive(10);
            Due.is("turn(0, " + length + ")", turned.turn(0, length), 1000 + Math.floorDiv(length - 10, 2));
            Due.is("length", turned.box(0, 1), length);
        }
    }

    private static void theBackIsTheFrontLessTheLength() {
        Due.says("its back is its front less its length");
        int[] lengths = {4, 5, 29, 30};
        for (int length : lengths) {
            BeltMarks marks = Belts.slow(0);
            marks.arrive(length);
            marks.pass(length);
            Due.is("back 0 of " + length, marks.arrive(4), BeltMarks.NOT_POSSIBLE);
            marks.pass(1);
            Due.is("back 1 of " + length, marks.arrive(4), 1);
        }
    }

    private static void upTo8BoxesAreOnTheBelt() {
        Due.says("There are up to 8 boxes on the belt, in the order in which they arrived");
        for (int boxes = 6; boxes <= 8; boxes++) {
            BeltMarks marks = Belts.row(boxes);
            marks.pass(2);
            Due.is("one more than " + boxes, marks.arrive(4), boxes < 8 ? boxes : BeltMarks.TOO_MANY);
            Due.is("boxes", marks.count(1), Math.min(boxes + 1, 8));
            for (int box = 0; box < marks.count(1); box++) {
                Due.is("number of box " + box, marks.box(box, 5), box);
                Due.is("front of box " + box, marks.box(box, 0), 1000 + 6 * (boxes - box));
            }
        }
    }

    private static void betweenTwoIsAlways1OrMore() {
        Due.says("between two of them is always 1 or more from the back of the one to the front of the next one");
        for (int between = 0; between <= 2; between++) {
            BeltMarks arriving = Belts.slow(0);
            arriving.arrive(4);
            arriving.pass(4 + between);
            Due.is(between + " between: arrive", arriving.arrive(4), between < 1 ? BeltMarks.NOT_POSSIBLE : 1);
            BeltMarks turning = Belts.slow(0);
            turning.arrive(4);
            turning.pass(5 + between);
            turning.arrive(4);
            // The front of the second one comes one place nearer.
            Due.is(between + " left: turn(1, 6)", turning.turn(1, 6), between < 1 ? BeltMarks.NOT_POSSIBLE : 1001);
            // Its back goes one place back, its front stays.
            Due.is(between + " left: turn(0, 5)", turning.turn(0, 5),
                between < 2 ? BeltMarks.NOT_POSSIBLE : 1000 + 5 + between);
        }
    }

    private static void thoseBehindMoveUp() {
        Due.says("(When a box leaves, those behind it move up.)");
        BeltMarks marks = Belts.row(8);
        marks.pass(20);
        Due.is("ahead: the first front", marks.box(0, 0), 1102);
        Due.is("the first leaves", marks.pass(1), 1);
        Due.is("boxes", marks.count(1), 7);
        for (int box = 0; box < 7; box++) {
            Due.is("number of box " + box, marks.box(box, 5), box + 1);
            Due.is("front of box " + box, marks.box(box, 0), 1000 + 99 - 6 * box);
        }
        Due.is("no eighth", marks.box(7, 5), BeltMarks.NO_SUCH);
        Due.is("the next one is the eighth", marks.arrive(4), 7);
        Due.is("its number", marks.box(7, 5), 8);
        Due.is("its mark", marks.box(7, 3), BeltMarks.NONE);
        Due.is("whether it was seen", marks.box(7, 2), 0);
    }

    private static void theSlackIs20AtFirst() {
        Due.says("The web has slack (20 at first).");
        BeltMarks marks = new BeltMarks();
        Due.is("slack", marks.count(10), 20);
        marks.set(BeltMarks.SLACK, 60);
        marks.set(BeltMarks.FEED, 0);
        marks.pass(1);
        Due.is("slack behind a tick without a feed", marks.count(10), 20);
    }
}
