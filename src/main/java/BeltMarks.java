/**
 * A marker that has to meet moving boxes on a belt. What each call answers is told by the
 * numbered promises of ../shared/DOC.md.
 */
public final class BeltMarks {
    public static final int NO_SUCH = -1, BAD_VALUE = -2, BAD_TEXT = -3, TOO_MANY = -4, NOT_POSSIBLE = -5, NONE = -6;
    public static final int SPEED = 0, LATE = 1, GUESS = 2, PLACE = 3, LABEL = 4, SLACK = 5, FEED = 6, NEAR = 7;

    /** What is added to a number that can be below 0, so that it is no error code. */
    private static final int MORE = 1000;
    private static final int MOST_TICKS_AT_ONCE = 99;
    private static final int MOST_TICKS = 20000;
    private static final int HIGHEST_GUESS = 5;
    private static final int MOST_NEEDED_SLACK = 60;

    /** What count() answers: these are places in a belt's tallies, too. */
    private static final int TICKS = 0, ARRIVED = 2, GOOD = 3, BAD = 4, MISSED = 5, BOX_MARKS = 6, BELT_MARKS = 7,
            MARKED_TWICE = 8, STARVED = 9, SLACK_LEFT = 10, WAY = 13;
    /** What count() answers from elsewhere. */
    private static final int BOXES = 1, REPORTS = 11, PLANS = 12, FIRST_SETTING = 14, PAD_LENGTH = 22, UNDOABLE = 23;

    /** The tallies that ifPass() compares, by its argument what; the slack comes behind them. */
    private static final int[] FORESEEN = {GOOD, BAD, MISSED, STARVED, BOX_MARKS, BELT_MARKS};

    private final Belt belt = new Belt();
    /** Where it is tried what a while would bring; it holds nothing from call to call. */
    private final Belt trial = new Belt();
    private final History history = new History();
    private final Belt[] slots = {new Belt(), new Belt()};
    private final boolean[] saved = new boolean[slots.length];
    private final Pad pad = new Pad();

    public BeltMarks() {
    }

    // ---- changes

    public int set(int setting, int value) {
        history.note(belt);
        return recorded(belt.choose(setting, value));
    }

    public int arrive(int length) {
        history.note(belt);
        return recorded(belt.takeBox(length));
    }

    public int turn(int box, int length) {
        history.note(belt);
        return recorded(belt.turnBox(box, length));
    }

    public int pass(int ticks) {
        history.note(belt);
        return recorded(belt.letPass(ticks));
    }

    /** Records the state that was noted, unless the answer of the change is an error. */
    private int recorded(int answer) {
        if (answer >= 0) {
            history.keepNoted();
        }
        return answer;
    }

    // ---- what there is

    public int box(int box, int what) {
        return belt.aboutBox(box, what);
    }

    public int plan(int place) {
        return belt.planAt(place);
    }

    public int report(int place, int what) {
        return belt.aboutReport(place, what);
    }

    public int count(int what) {
        if (what < 0 || what > UNDOABLE) {
            return BAD_VALUE;
        }
        if (what == PAD_LENGTH) {
            return pad.length;
        }
        if (what == UNDOABLE) {
            return history.size;
        }
        return belt.number(what);
    }

    // ---- what if; nothing changes

    public int ifPass(int ticks, int what) {
        if (!canTry(ticks) || what < 0 || what > FORESEEN.length) {
            return BAD_VALUE;
        }
        trial.copyFrom(belt);
        trial.tickOn(ticks);
        if (what == FORESEEN.length) {
            return trial.number(SLACK_LEFT);
        }
        return trial.number(FORESEEN[what]) - belt.number(FORESEEN[what]);
    }

    public int bestGuess(int ticks, int what) {
        if (!canTry(ticks) || what < 0 || what > 1) {
            return BAD_VALUE;
        }
        int best = 0;
        int most = -1;
        for (int guess = 0; guess <= HIGHEST_GUESS; guess++) {
            int good = goodWithGuess(guess, ticks);
            if (good > most) {
                best = guess;
                most = good;
            }
        }
        return what == 0 ? best : most;
    }

    public int neededSlack(int ticks) {
        if (!canTry(ticks)) {
            return BAD_VALUE;
        }
        // Where no plan starves with some slack, none starves with more, as there is never less
        // of it then: the slacks that are too low lie below all the others, and this finds how
        // many they are.
        int tooLow = 0;
        for (int step = 32; step > 0; step /= 2) {
            int slack = tooLow + step - 1;
            if (slack <= MOST_NEEDED_SLACK && starvesWithSlack(slack, ticks)) {
                tooLow += step;
            }
        }
        return tooLow > MOST_NEEDED_SLACK ? NONE : tooLow;
    }

    private static boolean canTry(int ticks) {
        return ticks >= 1 && ticks <= MOST_TICKS_AT_ONCE;
    }

    private int goodWithGuess(int guess, int ticks) {
        trial.copyFrom(belt);
        trial.settings[GUESS] = guess;
        trial.tickOn(ticks);
        return trial.number(GOOD) - belt.number(GOOD);
    }

    private boolean starvesWithSlack(int slack, int ticks) {
        trial.copyFrom(belt);
        trial.tallies[SLACK_LEFT] = slack;
        trial.tickOn(ticks);
        return trial.number(STARVED) > belt.number(STARVED);
    }

    // ---- texts

    public int put(long characters) {
        return pad.append(characters);
    }

    public int wipe() {
        return pad.empty();
    }

    public int fault() {
        return pad.firstFault();
    }

    public int carryOut() {
        if (pad.firstFault() != NONE) {
            return BAD_TEXT;
        }
        history.note(belt);
        int done = 0;
        for (int at = 0; at < pad.length; at++) {
            if (pad.isOrder(at)) {
                if (follow(at) < 0) {
                    break;
                }
                done++;
            }
        }
        pad.empty();
        return recorded(done);
    }

    /** Carries out the order that begins at a place of a pad without a fault. */
    private int follow(int at) {
        switch (pad.signAt(at)) {
            case 'b':
                return belt.takeBox(pad.numberAt(at + 1));
            case 'w':
                return belt.letPass(pad.numberAt(at + 1));
            case 's':
                return belt.choose(SPEED, pad.numberAt(at + 1));
            default:
                return belt.turnBox(pad.signAt(at + 1) - '0', pad.numberAt(at + 3));
        }
    }

    // ---- undo, saving

    public int undo() {
        if (history.size == 0) {
            return NOT_POSSIBLE;
        }
        history.takeBack(belt);
        return history.size;
    }

    public int save(int slot) {
        if (!isSlot(slot)) {
            return BAD_VALUE;
        }
        slots[slot].copyFrom(belt);
        saved[slot] = true;
        return belt.number(TICKS);
    }

    public int restore(int slot) {
        if (!isSlot(slot)) {
            return BAD_VALUE;
        }
        if (!saved[slot]) {
            return NOT_POSSIBLE;
        }
        history.note(belt);
        belt.copyFrom(slots[slot]);
        return recorded(belt.number(TICKS));
    }

    private boolean isSlot(int slot) {
        return slot >= 0 && slot < slots.length;
    }

    /** A box on the belt. */
    private static final class Box {
        static final int SHORTEST = 4, LONGEST = 30;
        /** What aboutBox() tells. */
        static final int FRONT = 0, LENGTH = 1, SEEN = 2, MARK = 3, TWICE = 4, NUMBER = 5;

        int front;
        int length;
        boolean seen;
        boolean marked;
        int mark;
        boolean twice;
        int number;

        static boolean canHave(int length) {
            return length >= SHORTEST && length <= LONGEST;
        }

        /** Makes this the box that arrives now. */
        void begin(int itsLength, int itsNumber) {
            front = 0;
            length = itsLength;
            seen = false;
            marked = false;
            mark = 0;
            twice = false;
            number = itsNumber;
        }

        void copyFrom(Box other) {
            front = other.front;
            length = other.length;
            seen = other.seen;
            marked = other.marked;
            mark = other.mark;
            twice = other.twice;
            number = other.number;
        }

        int back() {
            return front - length;
        }

        boolean liesUnder(int place) {
            return front >= place && front - length < place;
        }

        int tell(int what) {
            switch (what) {
                case FRONT:
                    return front + MORE;
                case LENGTH:
                    return length;
                case SEEN:
                    return seen ? 1 : 0;
                case MARK:
                    return marked ? mark + MORE : NONE;
                case TWICE:
                    return twice ? 1 : 0;
                case NUMBER:
                    return number;
                default:
                    return BAD_VALUE;
            }
        }
    }

    /** All that a change can change: the settings, the belt, the web, and what was counted. */
    private static final class Belt {
        static final int SENSOR = 20, MARKER = 60, END = 100, WAY_TO_MARKER = MARKER - SENSOR;
        static final int MOST_BOXES = 8;
        static final int LEAST_GAP = 1;
        static final int FIRST_SLACK = 20;
        static final int[] LOWEST = {0, 0, 0, 0, 1, 1, 0, 0};
        static final int[] HIGHEST = {9, 5, 5, 20, 20, 60, 9, 9};
        static final int[] AT_FIRST = {3, 2, 2, 4, 6, 20, 1, 2};
        /**
         * Room for reports and for plans. Each belongs to a box of its own; the box is on the
         * belt yet, or has left it by less than 40 places, where there is room for 8 at most.
         */
        static final int ROOM = 32;

        final int[] settings = AT_FIRST.clone();
        /** By the numbers of count(); the places of what is counted elsewhere are not used. */
        final int[] tallies = new int[FIRST_SETTING];
        /** The boxes on the belt, in their order; those behind them wait to be used again. */
        final Box[] boxes = new Box[MOST_BOXES];
        int boxCount;
        /** The number of the tick in which each report comes, and its excess. */
        final int[] comes = new int[ROOM];
        final int[] excesses = new int[ROOM];
        int reportCount;
        final int[] plans = new int[ROOM];
        int planCount;
        /** The ways of the latest ticks, the latest first. */
        final int[] ways = new int[HIGHEST_GUESS];

        Belt() {
            for (int i = 0; i < MOST_BOXES; i++) {
                boxes[i] = new Box();
            }
            tallies[SLACK_LEFT] = FIRST_SLACK;
        }

        void copyFrom(Belt other) {
            System.arraycopy(other.settings, 0, settings, 0, settings.length);
            System.arraycopy(other.tallies, 0, tallies, 0, tallies.length);
            boxCount = other.boxCount;
            for (int i = 0; i < boxCount; i++) {
                boxes[i].copyFrom(other.boxes[i]);
            }
            reportCount = other.reportCount;
            System.arraycopy(other.comes, 0, comes, 0, reportCount);
            System.arraycopy(other.excesses, 0, excesses, 0, reportCount);
            planCount = other.planCount;
            System.arraycopy(other.plans, 0, plans, 0, planCount);
            System.arraycopy(other.ways, 0, ways, 0, ways.length);
        }

        // ---- changes: each answers an error, and then has changed nothing, or 0 or more

        int choose(int setting, int value) {
            if (setting < 0 || setting >= settings.length) {
                return BAD_VALUE;
            }
            if (value < LOWEST[setting] || value > HIGHEST[setting]) {
                return BAD_VALUE;
            }
            int previous = settings[setting];
            settings[setting] = value;
            return previous;
        }

        int takeBox(int length) {
            if (!Box.canHave(length)) {
                return BAD_VALUE;
            }
            if (boxCount >= MOST_BOXES) {
                return TOO_MANY;
            }
            if (boxCount > 0 && boxes[boxCount - 1].back() < LEAST_GAP) {
                return NOT_POSSIBLE;
            }
            boxes[boxCount].begin(length, tallies[ARRIVED]);
            tallies[ARRIVED]++;
            boxCount++;
            return boxCount - 1;
        }

        int turnBox(int which, int length) {
            if (!isBox(which)) {
                return NO_SUCH;
            }
            if (!Box.canHave(length)) {
                return BAD_VALUE;
            }
            Box box = boxes[which];
            int front = box.front + Math.floorDiv(length - box.length, 2);
            if (!hasRoom(which, front, front - length)) {
                return NOT_POSSIBLE;
            }
            box.front = front;
            box.length = length;
            return front + MORE;
        }

        private boolean hasRoom(int which, int front, int back) {
            if (which > 0 && boxes[which - 1].back() - front < LEAST_GAP) {
                return false;
            }
            return which + 1 >= boxCount || back - boxes[which + 1].front >= LEAST_GAP;
        }

        int letPass(int ticks) {
            if (ticks < 1 || ticks > MOST_TICKS_AT_ONCE) {
                return BAD_VALUE;
            }
            if (tallies[TICKS] + ticks > MOST_TICKS) {
                return TOO_MANY;
            }
            int before = howManyLeft();
            tickOn(ticks);
            return howManyLeft() - before;
        }

        private int howManyLeft() {
            return tallies[GOOD] + tallies[BAD] + tallies[MISSED];
        }

        // ---- what there is

        private boolean isBox(int which) {
            return which >= 0 && which < boxCount;
        }

        int aboutBox(int which, int what) {
            return isBox(which) ? boxes[which].tell(what) : NO_SUCH;
        }

        int planAt(int place) {
            return place >= 0 && place < planCount ? plans[place] + MORE : NO_SUCH;
        }

        int aboutReport(int place, int what) {
            if (place < 0 || place >= reportCount) {
                return NO_SUCH;
            }
            if (what == 0) {
                return comes[place] - tallies[TICKS] + 1;
            }
            return what == 1 ? excesses[place] : BAD_VALUE;
        }

        /** Answers for the numbers of count() that a belt can tell. */
        int number(int what) {
            switch (what) {
                case BOXES:
                    return boxCount;
                case REPORTS:
                    return reportCount;
                case PLANS:
                    return planCount;
                default:
                    break;
            }
            if (what >= 0 && what < tallies.length) {
                return tallies[what];
            }
            int setting = what - FIRST_SETTING;
            return setting >= 0 && setting < settings.length ? settings[setting] : BAD_VALUE;
        }

        // ---- a tick

        void tickOn(int ticks) {
            for (int i = 0; i < ticks; i++) {
                moveOn();
                seeBoxes();
                countPlansDown();
                takeReports();
                doPlans();
                feed();
                letBoxesLeave();
                tallies[TICKS]++;
            }
        }

        private void moveOn() {
            int speed = settings[SPEED];
            for (int i = 0; i < boxCount; i++) {
                boxes[i].front += speed;
            }
            tallies[WAY] += speed;
            for (int i = ways.length - 1; i > 0; i--) {
                ways[i] = ways[i - 1];
            }
            ways[0] = speed;
        }

        private void seeBoxes() {
            for (int i = 0; i < boxCount; i++) {
                Box box = boxes[i];
                if (!box.seen && box.front >= SENSOR) {
                    box.seen = true;
                    addReport(box.front - SENSOR);
                }
            }
        }

        private void addReport(int excess) {
            if (reportCount < ROOM) {
                comes[reportCount] = tallies[TICKS] + settings[LATE];
                excesses[reportCount] = excess;
                reportCount++;
            }
        }

        private void countPlansDown() {
            for (int i = 0; i < planCount; i++) {
                plans[i] -= settings[SPEED];
            }
        }

        private void takeReports() {
            int left = 0;
            for (int i = 0; i < reportCount; i++) {
                if (comes[i] <= tallies[TICKS]) {
                    addPlan(excesses[i]);
                } else {
                    comes[left] = comes[i];
                    excesses[left] = excesses[i];
                    left++;
                }
            }
            reportCount = left;
        }

        private void addPlan(int excess) {
            if (planCount < ROOM) {
                plans[planCount] = WAY_TO_MARKER + settings[PLACE] - excess - guessedWay();
                planCount++;
            }
        }

        private int guessedWay() {
            int way = 0;
            for (int i = 0; i < settings[GUESS] && i < ways.length; i++) {
                way += ways[i];
            }
            return way;
        }

        private void doPlans() {
            int left = 0;
            for (int i = 0; i < planCount; i++) {
                if (plans[i] <= 0) {
                    useLabel();
                } else {
                    plans[left] = plans[i];
                    left++;
                }
            }
            planCount = left;
        }

        private void useLabel() {
            if (tallies[SLACK_LEFT] < settings[LABEL]) {
                tallies[STARVED]++;
                return;
            }
            tallies[SLACK_LEFT] -= settings[LABEL];
            for (int i = 0; i < boxCount; i++) {
                if (boxes[i].liesUnder(MARKER)) {
                    markBox(boxes[i]);
                    return;
                }
            }
            tallies[BELT_MARKS]++;
        }

        private void markBox(Box box) {
            tallies[BOX_MARKS]++;
            if (box.marked) {
                box.twice = true;
                tallies[MARKED_TWICE]++;
            }
            box.marked = true;
            box.mark = box.front - MARKER;
        }

        private void feed() {
            tallies[SLACK_LEFT] = Math.min(tallies[SLACK_LEFT] + settings[FEED], settings[SLACK]);
        }

        private void letBoxesLeave() {
            int left = 0;
            for (int i = 0; i < boxCount; i++) {
                Box box = boxes[i];
                if (box.back() >= END) {
                    tallies[fate(box)]++;
                } else {
                    // A swap, so that the box that left can be used again.
                    boxes[i] = boxes[left];
                    boxes[left] = box;
                    left++;
                }
            }
            boxCount = left;
        }

        /** Which tally a box belongs to that leaves. */
        private int fate(Box box) {
            if (!box.marked) {
                return MISSED;
            }
            boolean near = Math.abs(box.mark - settings[PLACE]) <= settings[NEAR];
            return near && !box.twice ? GOOD : BAD;
        }
    }

    /** The states before the latest changes. */
    private static final class History {
        static final int MOST = 6;
        /** One more than are kept: there the next state is noted. */
        static final int PLACES = MOST + 1;

        /** A ring. */
        final Belt[] states = new Belt[PLACES];
        int oldest;
        int size;

        History() {
            for (int i = 0; i < PLACES; i++) {
                states[i] = new Belt();
            }
        }

        private Belt stateAt(int place) {
            return states[Math.floorMod(oldest + place, PLACES)];
        }

        /** Notes a state ahead of a change; it counts only if keepNoted() follows. */
        void note(Belt belt) {
            stateAt(size).copyFrom(belt);
        }

        void keepNoted() {
            if (size < MOST) {
                size++;
            } else {
                oldest = Math.floorMod(oldest + 1, PLACES);
            }
        }

        void takeBack(Belt belt) {
            if (size > 0) {
                size--;
                belt.copyFrom(stateAt(size));
            }
        }
    }

    /** The text with the orders. */
    private static final class Pad {
        static final int MOST = 60;
        static final int MOST_AT_ONCE = 8;
        static final int LOWEST_CODE = 33, HIGHEST_CODE = 126;
        /** What can stand next in the text. */
        static final int ORDER = 0, BOX = 1, EQUALS = 2, NUMBER = 3, DIGIT_OR_END = 4, NUMBER_END = 5, NOTHING = 6;

        final char[] signs = new char[MOST];
        int length;

        int append(long characters) {
            int many = howMany(characters);
            if (many == 0) {
                return BAD_VALUE;
            }
            if (length + many > MOST) {
                return TOO_MANY;
            }
            for (int i = many - 1; i >= 0; i--) {
                signs[length] = (char) codeAt(characters, i);
                length++;
            }
            return length;
        }

        /** The code that stands so many places before the last one. */
        private static int codeAt(long characters, int place) {
            return (int) (characters >>> (8 * place)) & 255;
        }

        /** How many characters there are; 0 if they can't be put. */
        private static int howMany(long characters) {
            int many = 0;
            while (many < MOST_AT_ONCE && codeAt(characters, many) != 0) {
                int code = codeAt(characters, many);
                if (code < LOWEST_CODE || code > HIGHEST_CODE) {
                    return 0;
                }
                many++;
            }
            for (int i = many; i < MOST_AT_ONCE; i++) {
                if (codeAt(characters, i) != 0) {
                    return 0;
                }
            }
            return many;
        }

        int empty() {
            int had = length;
            length = 0;
            return had;
        }

        char signAt(int at) {
            return at >= 0 && at < length ? signs[at] : ';';
        }

        int firstFault() {
            int due = ORDER;
            for (int at = 0; at < length; at++) {
                due = dueBehind(due, signs[at]);
                if (due == NOTHING) {
                    return at;
                }
            }
            return due == DIGIT_OR_END || due == NUMBER_END ? NONE : length;
        }

        /** What can stand behind a sign, where something was due; NOTHING if the sign can't stand. */
        private static int dueBehind(int due, char sign) {
            switch (due) {
                case ORDER:
                    return behindOrder(sign);
                case BOX:
                    return sign >= '0' && sign <= '7' ? EQUALS : NOTHING;
                case EQUALS:
                    return sign == '=' ? NUMBER : NOTHING;
                case NUMBER:
                    if (sign == '0') {
                        return NUMBER_END;
                    }
                    return isDigit(sign) ? DIGIT_OR_END : NOTHING;
                case DIGIT_OR_END:
                    if (isDigit(sign)) {
                        return NUMBER_END;
                    }
                    return sign == ';' ? ORDER : NOTHING;
                case NUMBER_END:
                    return sign == ';' ? ORDER : NOTHING;
                default:
                    return NOTHING;
            }
        }

        private static int behindOrder(char sign) {
            if (sign == 't') {
                return BOX;
            }
            return sign == 'b' || sign == 'w' || sign == 's' ? NUMBER : NOTHING;
        }

        private static boolean isDigit(char sign) {
            return sign >= '0' && sign <= '9';
        }

        /** Whether an order of a text without a fault begins at a place. */
        boolean isOrder(int at) {
            return at == 0 || signAt(at - 1) == ';';
        }

        /** The number that begins at a place of a text without a fault. */
        int numberAt(int start) {
            int number = 0;
            for (int at = start; at < length && isDigit(signAt(at)); at++) {
                number = 10 * number + (signAt(at) - '0');
            }
            return number;
        }
    }
}
