import java.util.ArrayList;
import java.util.List;

/** Long runs of calls, drawn by a fixed rule, on the class and on the model of the document. */
public final class ModelTest {
    private static final int RUNS = 4000;
    /** Nothing is promised about an object behind so many calls. */
    private static final int MOST_CALLS = 512;
    private static final int CALLS_OF_A_STEP = 6;
    private static final int CALLS_OF_A_LOOK = 24 + 8 * 6 + 20 * 3;
    private static final int[] ODD_NUMBERS = {-1, 0, 1, 99, 100, Integer.MIN_VALUE, Integer.MAX_VALUE, -1000, 64};

    private long seed;
    private BeltMarks marks;
    private Model model;
    private List<String> calls;

    public static void main(String[] args) {
        for (int run = 0; run < RUNS; run++) {
            new ModelTest().run(run);
        }
        Due.end();
    }

    private int draw(int many) {
        seed = seed * 6364136223846793005L + 1442695040888963407L;
        return (int) Math.floorMod(seed >>> 33, (long) many);
    }

    /** Mostly a number from low to high, now and then one beside them or far off. */
    private int number(int low, int high) {
        int kind = draw(40);
        if (kind == 0) {
            return ODD_NUMBERS[draw(ODD_NUMBERS.length)];
        }
        return kind == 1 ? low - 1 : kind == 2 ? high + 1 : low + draw(high - low + 1);
    }

    private void run(int run) {
        seed = run * 7919L + 17;
        marks = new BeltMarks();
        model = new Model();
        calls = new ArrayList<>();
        if (run % 20 == 0) {
            comeNearTheLastTick();
        }
        int longest = run % 10 == 0 ? 99 : run % 3 == 0 ? 12 : 4;
        int most = MOST_CALLS - CALLS_OF_A_LOOK - CALLS_OF_A_STEP;
        // Half of the runs end early, so that all is looked at in states of every age.
        int until = run % 2 == 0 ? most : calls.size() + draw(most - calls.size());
        while (calls.size() < until) {
            if (!step(longest)) {
                System.out.println("run " + run + " differs behind " + calls.size() + " calls: "
                    + calls.subList(Math.max(0, calls.size() - 30), calls.size()));
                return;
            }
        }
        if (!sameEverywhere()) {
            System.out.println("run " + run + " stands differently behind " + calls.size() + " calls");
        }
    }

    /** 14 texts of 15 orders to pass 94 ticks: 19740 of 20000. */
    private void comeNearTheLastTick() {
        String text = "w94;".repeat(14) + "w94";
        for (int i = 0; i < 14; i++) {
            for (int from = 0; from < text.length(); from += 8) {
                long characters = Due.packed(text.substring(from, Math.min(from + 8, text.length())));
                same("put", marks.put(characters), model.put(characters));
            }
            same("carryOut()", marks.carryOut(), model.carryOut());
        }
        same("count(0)", marks.count(0), 19740);
    }

    private boolean same(String call, long got, long want) {
        calls.add(call);
        Due.is(call, got, want);
        return got == want;
    }

    private boolean step(int longest) {
        int kind = draw(100);
        if (kind < 22) {
            int length = draw(3) == 0 ? number(4, 30) : number(4, 9);
            return same("arrive(" + length + ")", marks.arrive(length), model.arrive(length));
        }
        if (kind < 48) {
            int ticks = longest == 99 && draw(2) == 0 ? 99 : number(1, longest);
            return same("pass(" + ticks + ")", marks.pass(ticks), model.pass(ticks));
        }
        if (kind < 56) {
            int setting = number(0, 7);
            int value = number(0, setting == 5 ? 60 : setting == 3 || setting == 4 ? 20 : setting == 1 || setting == 2 ? 5 : 9);
            return same("set(" + setting + ", " + value + ")", marks.set(setting, value), model.set(setting, value));
        }
        if (kind < 64) {
            int box = number(0, 7);
            int length = number(4, 30);
            return same("turn(" + box + ", " + length + ")", marks.turn(box, length), model.turn(box, length));
        }
        if (kind < 76) {
            return look();
        }
        if (kind < 84) {
            return foresee();
        }
        return kind < 94 ? write() : goBack();
    }

    private boolean look() {
        int place = number(0, 7);
        switch (draw(4)) {
            case 0: {
                int what = number(0, 5);
                return same("box(" + place + ", " + what + ")", marks.box(place, what), model.box(place, what));
            }
            case 1:
                return same("plan(" + place + ")", marks.plan(place), model.plan(place));
            case 2: {
                int what = number(0, 1);
                return same("report(" + place + ", " + what + ")", marks.report(place, what), model.report(place, what));
            }
            default: {
                int what = number(0, 23);
                return same("count(" + what + ")", marks.count(what), model.count(what));
            }
        }
    }

    private boolean foresee() {
        int ticks = number(1, 99);
        switch (draw(3)) {
            case 0: {
                int what = number(0, 6);
                return same("ifPass(" + ticks + ", " + what + ")", marks.ifPass(ticks, what), model.ifPass(ticks, what));
            }
            case 1: {
                int what = number(0, 1);
                return same("bestGuess(" + ticks + ", " + what + ")", marks.bestGuess(ticks, what), model.bestGuess(ticks, what));
            }
            default:
                return same("neededSlack(" + ticks + ")", marks.neededSlack(ticks), model.neededSlack(ticks));
        }
    }

    private boolean write() {
        int kind = draw(8);
        if (kind == 0) {
            return same("wipe()", marks.wipe(), model.wipe());
        }
        if (kind == 1) {
            return same("fault()", marks.fault(), model.fault());
        }
        if (kind == 2) {
            long characters = (long) draw(1 << 30) << 34 ^ draw(1 << 30) << draw(30);
            return same("put(" + characters + ")", marks.put(characters), model.put(characters));
        }
        boolean same = true;
        int orders = 1 + draw(4);
        for (int i = 0; i < orders; i++) {
            String order = (i > 0 ? ";" : "") + order();
            long characters = Due.packed(order);
            same = same && same("put(\"" + order + "\")", marks.put(characters), model.put(characters));
        }
        return same && same("fault()", marks.fault(), model.fault())
            && same("carryOut()", marks.carryOut(), model.carryOut());
    }

    private String order() {
        if (draw(25) == 0) {
            String signs = "bwst=;0123456789x!~";
            return "" + signs.charAt(draw(signs.length())) + signs.charAt(draw(signs.length()));
        }
        switch (draw(4)) {
            case 0: return "b" + (4 + draw(10));
            case 1: return "w" + draw(12);
            case 2: return "s" + draw(11);
            default: return "t" + draw(8) + "=" + draw(33);
        }
    }

    private boolean goBack() {
        int slot = draw(2) == 0 ? 0 : number(0, 1);
        switch (draw(4)) {
            case 0: return same("save(" + slot + ")", marks.save(slot), model.save(slot));
            case 1: return same("restore(" + slot + ")", marks.restore(slot), model.restore(slot));
            default: return same("undo()", marks.undo(), model.undo());
        }
    }

    /** Whether all that can be asked of the class and of the model has the same answers. */
    private boolean sameEverywhere() {
        boolean same = true;
        for (int what = 0; what <= 23; what++) {
            same &= same("count(" + what + ")", marks.count(what), model.count(what));
        }
        for (int box = 0; box < 8; box++) {
            for (int what = 0; what <= 5; what++) {
                same &= same("box(" + box + ", " + what + ")", marks.box(box, what), model.box(box, what));
            }
        }
        for (int place = 0; place < 20; place++) {
            same &= same("plan(" + place + ")", marks.plan(place), model.plan(place));
            same &= same("report(" + place + ", 0)", marks.report(place, 0), model.report(place, 0));
            same &= same("report(" + place + ", 1)", marks.report(place, 1), model.report(place, 1));
        }
        return same;
    }
}
