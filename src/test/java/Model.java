import java.util.ArrayDeque;
import java.util.ArrayList;
import java.util.List;

/** The document once more, written as differently from SoftStairs as it goes: slow, with trees and lists. */
final class Model {
    /** A part of a rule. */
    private static final class Part {
        final char sign;
        final Part first;
        final Part second;

        Part(char sign, Part first, Part second) {
            this.sign = sign;
            this.first = first;
            this.second = second;
        }

        int parts() {
            return 1 + (first == null ? 0 : first.parts()) + (second == null ? 0 : second.parts());
        }

        int depth() {
            return 1 + Math.max(first == null ? 0 : first.depth(), second == null ? 0 : second.depth());
        }

        int letters() {
            if (first == null) {
                return 1 << "abcdABCD".indexOf(sign);
            }
            return first.letters() | (second == null ? 0 : second.letters());
        }

        /** Whether it holds; counts the parts that are looked at. */
        boolean holds(boolean[] complaining, int[] looked) {
            looked[0]++;
            if (sign == '!') {
                return !first.holds(complaining, looked);
            }
            if (sign == '&') {
                return first.holds(complaining, looked) && second.holds(complaining, looked);
            }
            if (sign == '|') {
                return first.holds(complaining, looked) || second.holds(complaining, looked);
            }
            int spot = "abcdABCD".indexOf(sign);
            return spot < 4
                ? complaining[2 * spot] || complaining[2 * spot + 1]
                : complaining[2 * (spot - 4)] && complaining[2 * (spot - 4) + 1];
        }
    }

    private record Person(int weight, int place, int ticks) { }

    private record Stop(int tick, int speed, int load, int sensors, int byHand) { }

    private static final class State implements Cloneable {
        int[] settings = {50, 10, 6, 20, 5, 100, 800};
        List<Person> people = new ArrayList<>();
        boolean[] complaining = new boolean[8];
        int[] disagreed = new int[4];
        List<Stop> stops = new ArrayList<>();
        Part rule;
        int tick, speed, mode, off, offWeight, empty, units, greatest;

        State copy() {
            try {
                State other = (State) clone();
                other.settings = settings.clone();
                other.people = new ArrayList<>(people);
                other.complaining = complaining.clone();
                other.disagreed = disagreed.clone();
                other.stops = new ArrayList<>(stops);
                return other;
            } catch (CloneNotSupportedException e) {
                throw new IllegalStateException(e);
            }
        }

        int load() {
            return people.stream().mapToInt(Person::weight).sum();
        }

        int sensors() {
            int set = 0;
            for (int i = 0; i < 8; i++) {
                set += complaining[i] ? 1 << i : 0;
            }
            return set;
        }

        boolean holds() {
            return rule.holds(complaining, new int[1]);
        }

        void begin(int byHand) {
            mode = 1;
            stops.add(new Stop(tick, speed, load(), sensors(), byHand));
        }

        void tick() {
            if (mode == 0 && holds()) {
                begin(0);
            }
            boolean doubt = false;
            for (int spot = 0; spot < 4; spot++) {
                if (complaining[2 * spot] ^ complaining[2 * spot + 1]) {
                    disagreed[spot]++;
                } else {
                    disagreed[spot] = 0;
                }
                doubt |= disagreed[spot] > settings[4];
            }
            int wanted;
            if (mode != 0) {
                wanted = 0;
            } else if (doubt || people.isEmpty() && empty + 1 > settings[3]) {
                wanted = settings[1];
            } else {
                wanted = settings[0] - load() / settings[5];
                if (wanted < settings[1]) {
                    wanted = settings[1];
                }
            }
            int steps = load() > settings[6] ? settings[2] / 2 + settings[2] % 2 : settings[2];
            int before = speed;
            for (int i = 0; i < steps; i++) {
                speed += Integer.signum(wanted - speed);
            }
            greatest = Math.max(greatest, speed > before ? speed - before : before - speed);
            units += speed;
            List<Person> left = new ArrayList<>();
            for (Person one : people) {
                if (one.place + speed > 999) {
                    off++;
                    offWeight += one.weight;
                } else {
                    left.add(new Person(one.weight, one.place + speed, one.ticks + 1));
                }
            }
            people = left;
            if (mode == 1 && speed == 0) {
                mode = 2;
            }
            empty = people.isEmpty() ? empty + 1 : 0;
            tick++;
        }
    }

    private State now = new State();
    private final ArrayDeque<State> history = new ArrayDeque<>();
    private final State[] slots = new State[2];
    private String pad = "";
    private int at;

    Model() {
        now.rule = parse("A|B|C|D");
    }

    private Part parse(String text) {
        at = 0;
        return parseRule(text);
    }

    private boolean next(String text, char sign) {
        if (at < text.length() && text.charAt(at) == sign) {
            at++;
            return true;
        }
        return false;
    }

    /** Null at a fault; then at is the fault. */
    private Part parseRule(String text) {
        Part left = parseBoth(text);
        while (left != null && next(text, '|')) {
            Part right = parseBoth(text);
            left = right == null ? null : new Part('|', left, right);
        }
        return left;
    }

    private Part parseBoth(String text) {
        Part left = parsePart(text);
        while (left != null && next(text, '&')) {
            Part right = parsePart(text);
            left = right == null ? null : new Part('&', left, right);
        }
        return left;
    }

    private Part parsePart(String text) {
        if (next(text, '!')) {
            Part part = parsePart(text);
            return part == null ? null : new Part('!', part, null);
        }
        if (next(text, '(')) {
            Part part = parseRule(text);
            return part != null && next(text, ')') ? part : null;
        }
        if (at < text.length() && "abcdABCD".indexOf(text.charAt(at)) >= 0) {
            at++;
            return new Part(text.charAt(at - 1), null, null);
        }
        return null;
    }

    private void record() {
        history.addLast(now.copy());
        if (history.size() > 6) {
            history.removeFirst();
        }
    }

    int set(int setting, int value) {
        int[] least = {10, 1, 1, 1, 1, 1, 1};
        int[] greatest = {90, 40, 30, 99, 99, 999, 9999};
        if (setting < 0 || setting > 6 || value < least[setting] || value > greatest[setting]) {
            return -2;
        }
        record();
        int before = now.settings[setting];
        now.settings[setting] = value;
        return before;
    }

    int come(int weight) {
        if (weight < 1 || weight > 200) {
            return -2;
        }
        if (now.people.size() == 20) {
            return -4;
        }
        if (now.mode != 0) {
            return -5;
        }
        record();
        now.people.add(new Person(weight, 0, 0));
        return now.people.size();
    }

    int sense(int spot, int sensor, int on) {
        if (spot < 0 || spot > 3 || sensor < 0 || sensor > 1) {
            return -1;
        }
        if (on < 0 || on > 1) {
            return -2;
        }
        record();
        int before = now.complaining[2 * spot + sensor] ? 1 : 0;
        now.complaining[2 * spot + sensor] = on == 1;
        return before;
    }

    int stop() {
        if (now.mode != 0) {
            return -5;
        }
        record();
        now.begin(1);
        return now.speed;
    }

    int restart() {
        if (now.mode != 2 || now.holds()) {
            return -5;
        }
        record();
        now.mode = 0;
        return now.people.size();
    }

    int pass(int ticks) {
        if (ticks < 1 || ticks > 999) {
            return -2;
        }
        if (now.tick + ticks > 99999) {
            return -4;
        }
        record();
        for (int i = 0; i < ticks; i++) {
            now.tick();
        }
        return now.tick;
    }

    int of(int who, int what) {
        if (who < 0 || who >= now.people.size()) {
            return -1;
        }
        Person one = now.people.get(who);
        return what == 0 ? one.place : what == 1 ? one.weight : what == 2 ? one.ticks : -2;
    }

    int ofSpot(int spot, int what) {
        if (spot < 0 || spot > 3) {
            return -1;
        }
        if (what < 0 || what > 2) {
            return -2;
        }
        return what == 2 ? now.disagreed[spot] : now.complaining[2 * spot + what] ? 1 : 0;
    }

    int ofStop(int stop, int what) {
        if (stop < 0 || stop > 5 || stop >= now.stops.size()) {
            return -1;
        }
        Stop one = now.stops.get(now.stops.size() - 1 - stop);
        int[] facts = {one.tick, one.speed, one.load, one.sensors, one.byHand};
        return what < 0 || what > 4 ? -2 : facts[what];
    }

    int rule(int what) {
        int[] looked = new int[1];
        boolean holds = now.rule.holds(now.complaining, looked);
        int[] facts = {now.rule.parts(), now.rule.depth(), holds ? 1 : 0, now.rule.letters(), looked[0]};
        return what < 0 || what > 4 ? -2 : facts[what];
    }

    int count(int what) {
        int[] s = now.settings;
        int[] facts = {now.tick, now.people.size(), now.load(), now.speed, now.mode, now.off, now.offWeight,
            now.stops.size(), now.empty, now.units, now.greatest, s[0], s[1], s[2], s[3], s[4], s[5], s[6],
            pad.length(), history.size()};
        return what < 0 || what > 19 ? -2 : facts[what];
    }

    private int wayBy(int ramp) {
        State trial = now.copy();
        trial.settings[2] = ramp;
        if (trial.mode == 0) {
            trial.begin(1);
        }
        while (trial.mode != 2) {
            trial.tick();
        }
        return trial.units - now.units;
    }

    int way() {
        return wayBy(now.settings[2]);
    }

    int emptyIn() {
        State trial = now.copy();
        for (int ticks = 0; ticks <= 3000; ticks++) {
            if (trial.people.isEmpty()) {
                return ticks;
            }
            trial.tick();
        }
        return -6;
    }

    int leastRamp(int units) {
        if (units < 0 || units > 9999) {
            return -2;
        }
        for (int ramp = 1; ramp <= 30; ramp++) {
            if (wayBy(ramp) <= units) {
                return ramp;
            }
        }
        return -6;
    }

    int wouldHold(int sensors) {
        if (sensors < 0 || sensors > 255) {
            return -2;
        }
        boolean[] complaining = new boolean[8];
        for (int i = 0; i < 8; i++) {
            complaining[i] = (sensors & 1 << i) != 0;
        }
        return now.rule.holds(complaining, new int[1]) ? 1 : 0;
    }

    int fewest() {
        for (int bits = 0; bits <= 8; bits++) {
            for (int set = 0; set < 256; set++) {
                if (Integer.bitCount(set) == bits && wouldHold(set) == 1) {
                    return set;
                }
            }
        }
        return -6;
    }

    int put(long characters) {
        StringBuilder text = new StringBuilder();
        boolean ended = false;
        for (int i = 0; i < 8; i++) {
            int code = (int) (characters >> 8 * i) & 255;
            if (code == 0) {
                ended = true;
            } else if (ended || code < 33 || code > 126) {
                return -2;
            } else {
                text.insert(0, (char) code);
            }
        }
        if (text.length() == 0) {
            return -2;
        }
        if (pad.length() + text.length() > 60) {
            return -4;
        }
        pad += text;
        return pad.length();
    }

    int wipe() {
        int before = pad.length();
        pad = "";
        return before;
    }

    int fault() {
        Part part = parse(pad);
        return part != null && at == pad.length() ? -6 : at;
    }

    int load() {
        Part part = parse(pad);
        if (part == null || at != pad.length()) {
            return -3;
        }
        record();
        now.rule = part;
        pad = "";
        return part.parts();
    }

    int undo() {
        if (history.isEmpty()) {
            return -5;
        }
        now = history.removeLast();
        return history.size();
    }

    int save(int slot) {
        if (slot != 0 && slot != 1) {
            return -2;
        }
        slots[slot] = now.copy();
        return now.people.size();
    }

    int restore(int slot) {
        if (slot != 0 && slot != 1) {
            return -2;
        }
        if (slots[slot] == null) {
            return -5;
        }
        record();
        now = slots[slot].copy();
        return now.people.size();
    }
}
