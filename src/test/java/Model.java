import java.util.ArrayList;
import java.util.List;
import java.util.regex.Matcher;
import java.util.regex.Pattern;

/** The document once more, as literally as it can be written, and without care for its cost. */
final class Model {
    private static final int NO_SUCH = -1, BAD_VALUE = -2, BAD_TEXT = -3, TOO_MANY = -4, NOT_POSSIBLE = -5, NONE = -6;
    private static final String NUMBER = "(0|[1-9][0-9]?)";
    private static final String ORDER = "([bws]" + NUMBER + "|t[0-7]=" + NUMBER + ")";
    private static final Pattern TEXT = Pattern.compile(ORDER + "(;" + ORDER + ")*");
    private static final int[][] RANGES = {{0, 9}, {0, 5}, {0, 5}, {0, 20}, {1, 20}, {1, 60}, {0, 9}, {0, 9}};

    private State now = new State();
    private final List<State> history = new ArrayList<>();
    private final State[] slots = new State[2];
    private String pad = "";

    private static final class Box {
        int front, length, number;
        boolean seen, twice;
        Integer mark;

        Box copy() {
            Box b = new Box();
            b.front = front;
            b.length = length;
            b.number = number;
            b.seen = seen;
            b.twice = twice;
            b.mark = mark;
            return b;
        }
    }

    private static final class State {
        int[] settings = {3, 2, 2, 4, 6, 20, 1, 2};
        int ticks, arrived, good, bad, missed, boxMarks, beltMarks, doubles, starved;
        int slack = 20, way;
        List<Box> boxes = new ArrayList<>();
        List<int[]> reports = new ArrayList<>();
        List<Integer> plans = new ArrayList<>();
        List<Integer> waysSoFar = new ArrayList<>();

        State copy() {
            State s = new State();
            s.settings = settings.clone();
            s.ticks = ticks;
            s.arrived = arrived;
            s.good = good;
            s.bad = bad;
            s.missed = missed;
            s.boxMarks = boxMarks;
            s.beltMarks = beltMarks;
            s.doubles = doubles;
            s.starved = starved;
            s.slack = slack;
            s.way = way;
            for (Box b : boxes) {
                s.boxes.add(b.copy());
            }
            for (int[] r : reports) {
                s.reports.add(r.clone());
            }
            s.plans.addAll(plans);
            int from = Math.max(0, waysSoFar.size() - 5);
            s.waysSoFar.addAll(waysSoFar.subList(from, waysSoFar.size()));
            return s;
        }

        void tick() {
            int speed = settings[0], late = settings[1], guess = settings[2], place = settings[3];
            int label = settings[4], most = settings[5], fed = settings[6], near = settings[7];
            for (Box b : boxes) {
                b.front += speed;
            }
            way += speed;
            waysSoFar.add(speed);
            for (Box b : boxes) {
                if (!b.seen && b.front >= 20) {
                    b.seen = true;
                    reports.add(new int[] {late, b.front - 20});
                }
            }
            plans.replaceAll(p -> p - speed);
            int sum = 0;
            for (int i = 1; i <= guess; i++) {
                sum += waysSoFar.size() >= i ? waysSoFar.get(waysSoFar.size() - i) : 0;
            }
            for (int[] r : new ArrayList<>(reports)) {
                if (r[0] == 0) {
                    plans.add(40 + place - r[1] - sum);
                    reports.remove(r);
                } else {
                    r[0]--;
                }
            }
            List<Integer> due = new ArrayList<>(plans);
            due.removeIf(p -> p > 0);
            plans.removeIf(p -> p <= 0);
            for (int i = 0; i < due.size(); i++) {
                perform(label);
            }
            slack = Math.min(slack + fed, most);
            for (Box b : new ArrayList<>(boxes)) {
                if (b.front - b.length >= 100) {
                    boxes.remove(b);
                    if (b.mark == null) {
                        missed++;
                    } else if (!b.twice && Math.abs(b.mark - place) <= near) {
                        good++;
                    } else {
                        bad++;
                    }
                }
            }
            ticks++;
        }

        private void perform(int label) {
            if (slack < label) {
                starved++;
                return;
            }
            slack -= label;
            for (Box b : boxes) {
                if (b.front >= 60 && b.front - b.length < 60) {
                    boxMarks++;
                    if (b.mark != null) {
                        b.twice = true;
                        doubles++;
                    }
                    b.mark = b.front - 60;
                    return;
                }
            }
            beltMarks++;
        }

        State after(int many) {
            State s = copy();
            for (int i = 0; i < many; i++) {
                s.tick();
            }
            return s;
        }

        int set(int setting, int value) {
            if (setting < 0 || setting > 7 || value < RANGES[setting][0] || value > RANGES[setting][1]) {
                return BAD_VALUE;
            }
            int old = settings[setting];
            settings[setting] = value;
            return old;
        }

        int arrive(int length) {
            if (length < 4 || length > 30) {
                return BAD_VALUE;
            }
            if (boxes.size() == 8) {
                return TOO_MANY;
            }
            if (!boxes.isEmpty()) {
                Box latest = boxes.get(boxes.size() - 1);
                if (latest.front - latest.length < 1) {
                    return NOT_POSSIBLE;
                }
            }
            Box b = new Box();
            b.length = length;
            b.number = arrived++;
            boxes.add(b);
            return boxes.size() - 1;
        }

        int turn(int box, int length) {
            if (box < 0 || box >= boxes.size()) {
                return NO_SUCH;
            }
            if (length < 4 || length > 30) {
                return BAD_VALUE;
            }
            Box b = boxes.get(box);
            int oldFront = b.front, oldLength = b.length;
            b.front += (int) Math.floor((length - oldLength) / 2.0);
            b.length = length;
            for (int i = 1; i < boxes.size(); i++) {
                Box ahead = boxes.get(i - 1);
                if (ahead.front - ahead.length - boxes.get(i).front < 1) {
                    b.front = oldFront;
                    b.length = oldLength;
                    return NOT_POSSIBLE;
                }
            }
            return b.front + 1000;
        }

        int pass(int many) {
            if (many < 1 || many > 99) {
                return BAD_VALUE;
            }
            if (ticks + many > 20000) {
                return TOO_MANY;
            }
            int before = good + bad + missed;
            for (int i = 0; i < many; i++) {
                tick();
            }
            return good + bad + missed - before;
        }
    }

    private int changed(State before, int answer) {
        if (answer >= 0) {
            history.add(before);
            if (history.size() > 6) {
                history.remove(0);
            }
        }
        return answer;
    }

    int set(int setting, int value) {
        State before = now.copy();
        return changed(before, now.set(setting, value));
    }

    int arrive(int length) {
        State before = now.copy();
        return changed(before, now.arrive(length));
    }

    int turn(int box, int length) {
        State before = now.copy();
        return changed(before, now.turn(box, length));
    }

    int pass(int ticks) {
        State before = now.copy();
        return changed(before, now.pass(ticks));
    }

    int box(int box, int what) {
        if (box < 0 || box >= now.boxes.size()) {
            return NO_SUCH;
        }
        Box b = now.boxes.get(box);
        switch (what) {
            case 0: return b.front + 1000;
            case 1: return b.length;
            case 2: return b.seen ? 1 : 0;
            case 3: return b.mark == null ? NONE : b.mark + 1000;
            case 4: return b.twice ? 1 : 0;
            case 5: return b.number;
            default: return BAD_VALUE;
        }
    }

    int plan(int place) {
        return place < 0 || place >= now.plans.size() ? NO_SUCH : now.plans.get(place) + 1000;
    }

    int report(int place, int what) {
        if (place < 0 || place >= now.reports.size()) {
            return NO_SUCH;
        }
        if (what != 0 && what != 1) {
            return BAD_VALUE;
        }
        return what == 0 ? now.reports.get(place)[0] + 1 : now.reports.get(place)[1];
    }

    int count(int what) {
        State s = now;
        if (what < 0 || what > 23) {
            return BAD_VALUE;
        }
        if (what >= 14 && what <= 21) {
            return s.settings[what - 14];
        }
        int[] first = {s.ticks, s.boxes.size(), s.arrived, s.good, s.bad, s.missed, s.boxMarks, s.beltMarks,
            s.doubles, s.starved, s.slack, s.reports.size(), s.plans.size(), s.way};
        return what < first.length ? first[what] : what == 22 ? pad.length() : history.size();
    }

    int ifPass(int ticks, int what) {
        if (ticks < 1 || ticks > 99 || what < 0 || what > 6) {
            return BAD_VALUE;
        }
        State s = now.after(ticks);
        int[] brought = {s.good - now.good, s.bad - now.bad, s.missed - now.missed, s.starved - now.starved,
            s.boxMarks - now.boxMarks, s.beltMarks - now.beltMarks, s.slack};
        return brought[what];
    }

    int bestGuess(int ticks, int what) {
        if (ticks < 1 || ticks > 99 || what < 0 || what > 1) {
            return BAD_VALUE;
        }
        int[] good = new int[6];
        int most = 0;
        for (int guess = 0; guess < 6; guess++) {
            State s = now.copy();
            s.settings[2] = guess;
            good[guess] = s.after(ticks).good - now.good;
            most = Math.max(most, good[guess]);
        }
        int lowest = 0;
        while (good[lowest] < most) {
            lowest++;
        }
        return what == 0 ? lowest : most;
    }

    int neededSlack(int ticks) {
        if (ticks < 1 || ticks > 99) {
            return BAD_VALUE;
        }
        for (int slack = 0; slack <= 60; slack++) {
            State s = now.copy();
            s.slack = slack;
            if (s.after(ticks).starved == now.starved) {
                return slack;
            }
        }
        return NONE;
    }

    int put(long characters) {
        StringBuilder more = new StringBuilder();
        for (int i = 0; i < 8; i++) {
            int code = (int) (characters >>> 56 - 8 * i & 0xff);
            if (code == 0 && more.length() == 0) {
                continue;
            }
            if (code < 33 || code > 126) {
                return BAD_VALUE;
            }
            more.append((char) code);
        }
        if (more.length() == 0) {
            return BAD_VALUE;
        }
        if (pad.length() + more.length() > 60) {
            return TOO_MANY;
        }
        pad += more;
        return pad.length();
    }

    int wipe() {
        int had = pad.length();
        pad = "";
        return had;
    }

    int fault() {
        if (TEXT.matcher(pad).matches()) {
            return NONE;
        }
        for (int i = 0; i < pad.length(); i++) {
            Matcher start = TEXT.matcher(pad.substring(0, i + 1));
            if (!start.matches() && !start.hitEnd()) {
                return i;
            }
        }
        return pad.length();
    }

    int carryOut() {
        if (fault() != NONE) {
            return BAD_TEXT;
        }
        State before = now.copy();
        int done = 0;
        for (String order : pad.split(";")) {
            int number = Integer.parseInt(order.substring(order.charAt(0) == 't' ? 3 : 1));
            int answer = order.charAt(0) == 'b' ? now.arrive(number)
                : order.charAt(0) == 'w' ? now.pass(number)
                : order.charAt(0) == 's' ? now.set(0, number)
                : now.turn(order.charAt(1) - '0', number);
            if (answer < 0) {
                break;
            }
            done++;
        }
        pad = "";
        return changed(before, done);
    }

    int undo() {
        if (history.isEmpty()) {
            return NOT_POSSIBLE;
        }
        now = history.remove(history.size() - 1);
        return history.size();
    }

    int save(int slot) {
        if (slot < 0 || slot > 1) {
            return BAD_VALUE;
        }
        slots[slot] = now.copy();
        return now.ticks;
    }

    int restore(int slot) {
        if (slot < 0 || slot > 1) {
            return BAD_VALUE;
        }
        if (slots[slot] == null) {
            return NOT_POSSIBLE;
        }
        State before = now;
        now = slots[slot].copy();
        return changed(before, now.ticks);
    }
}
