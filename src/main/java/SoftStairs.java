/** Moving stairs that slow down when they are empty and stop softly when sensors complain. */
public final class SoftStairs {
    public static final int NO_SUCH = -1, BAD_VALUE = -2, BAD_TEXT = -3, TOO_MANY = -4, NOT_POSSIBLE = -5, NONE = -6;
    public static final int FULL = 0, SLOW = 1, RAMP = 2, IDLE = 3, DOUBT = 4, PER = 5, HEAVY = 6;

    private static final int[] LEAST = {10, 1, 1, 1, 1, 1, 1};
    private static final int[] GREATEST = {90, 40, 30, 99, 99, 999, 9999};
    private static final int[] AT_FIRST = {50, 10, 6, 20, 5, 100, 800};
    private static final int SETTINGS = 7, COUNTED_SETTINGS = 11;

    private static final int RUNNING = 0, STOPPING = 1, STOPPED = 2;
    private static final int WAY_LENGTH = 1000, MOST_PEOPLE = 20, MOST_WEIGHT = 200;
    private static final int SPOTS = 4, SENSORS_OF_SPOT = 2, SENSOR_SETS = 256;
    private static final int KEPT_STOPS = 6, FACTS_OF_STOP = 5;
    private static final int LAST_TICK = 99999, MOST_TICKS = 999, LONGEST_LOOK = 3000;
    private static final int MOST_UNITS = 9999;
    private static final int PAD_LENGTH = 60, CHARACTERS_OF_LONG = 8;
    private static final int HISTORY_LENGTH = 6, SLOTS = 2;
    private static final String FIRST_RULE = "A|B|C|D";

    private final Pad pad = new Pad();
    private final Reader reader = new Reader();
    private final Stairs now;
    private final Stairs trial;
    private final History history;
    private final Stairs[] slots = new Stairs[SLOTS];
    private final boolean[] saved = new boolean[SLOTS];

    public SoftStairs() {
        Rule first = reader.read(FIRST_RULE.toCharArray(), FIRST_RULE.length());
        now = new Stairs(first);
        trial = new Stairs(first);
        history = new History(first);
        for (int i = 0; i < SLOTS; i++) {
            slots[i] = new Stairs(first);
        }
    }

    // ---- changes

    public int set(int setting, int value) {
        if (setting < 0 || setting >= SETTINGS) {
            return BAD_VALUE;
        }
        if (value < LEAST[setting] || value > GREATEST[setting]) {
            return BAD_VALUE;
        }
        history.record(now);
        int previous = now.settings[setting];
        now.settings[setting] = value;
        return previous;
    }

    public int come(int weight) {
        if (weight < 1 || weight > MOST_WEIGHT) {
            return BAD_VALUE;
        }
        if (now.people >= MOST_PEOPLE) {
            return TOO_MANY;
        }
        if (now.mode != RUNNING) {
            return NOT_POSSIBLE;
        }
        history.record(now);
        now.stepOn(weight);
        return now.people;
    }

    public int sense(int spot, int sensor, int on) {
        if (spot < 0 || spot >= SPOTS || sensor < 0 || sensor >= SENSORS_OF_SPOT) {
            return NO_SUCH;
        }
        if (on != 0 && on != 1) {
            return BAD_VALUE;
        }
        history.record(now);
        int before = now.complains(spot, sensor);
        now.setComplaint(spot, sensor, on);
        return before;
    }

    public int stop() {
        if (now.mode != RUNNING) {
            return NOT_POSSIBLE;
        }
        history.record(now);
        now.beginStop(1);
        return now.speed;
    }

    public int restart() {
        if (now.mode != STOPPED || now.ruleHolds()) {
            return NOT_POSSIBLE;
        }
        history.record(now);
        now.mode = RUNNING;
        return now.people;
    }

    public int pass(int ticks) {
        if (ticks < 1 || ticks > MOST_TICKS) {
            return BAD_VALUE;
        }
        if (now.tick > LAST_TICK - ticks) {
            return TOO_MANY;
        }
        history.record(now);
        // While only time passes, no sensor changes, and so the rule doesn't.
        boolean holds = now.ruleHolds();
        for (int i = 0; i < ticks; i++) {
            now.passTick(holds);
        }
        return now.tick;
    }

    // ---- what there is

    public int of(int who, int what) {
        if (who < 0 || who >= now.people || who >= MOST_PEOPLE) {
            return NO_SUCH;
        }
        switch (what) {
            case 0: return now.places[who];
            case 1: return now.weights[who];
            case 2: return now.tick - now.cameAt[who];
            default: return BAD_VALUE;
        }
    }

    public int ofSpot(int spot, int what) {
        if (spot < 0 || spot >= SPOTS) {
            return NO_SUCH;
        }
        switch (what) {
            case 0: return now.complains(spot, 0);
            case 1: return now.complains(spot, 1);
            case 2: return now.disagreed[spot];
            default: return BAD_VALUE;
        }
    }

    public int ofStop(int stop, int what) {
        if (stop < 0 || stop >= now.stops || stop >= KEPT_STOPS) {
            return NO_SUCH;
        }
        if (what < 0 || what >= FACTS_OF_STOP) {
            return BAD_VALUE;
        }
        return now.kept[stop * FACTS_OF_STOP + what];
    }

    public int rule(int what) {
        switch (what) {
            case 0: return now.rule.parts;
            case 1: return now.rule.depth();
            case 2: return now.ruleHolds() ? 1 : 0;
            case 3: return now.rule.letters;
            case 4: return now.rule.lookedAt(now.sensors);
            default: return BAD_VALUE;
        }
    }

    public int count(int what) {
        switch (what) {
            case 18: return pad.length;
            case 19: return history.length;
            default: return now.number(what);
        }
    }

    // ---- what if; nothing changes

    public int way() {
        return wayWith(now.settings[RAMP]);
    }

    public int emptyIn() {
        trial.copy(now);
        return trial.ticksUntilEmpty();
    }

    public int leastRamp(int units) {
        if (units < 0 || units > MOST_UNITS) {
            return BAD_VALUE;
        }
        // A greater ramp need not have the shorter way while people get off, so each one is tried.
        for (int ramp = LEAST[RAMP]; ramp <= GREATEST[RAMP]; ramp++) {
            if (wayWith(ramp) <= units) {
                return ramp;
            }
        }
        return NONE;
    }

    public int wouldHold(int sensors) {
        if (sensors < 0 || sensors >= SENSOR_SETS) {
            return BAD_VALUE;
        }
        return now.rule.holds(sensors) ? 1 : 0;
    }

    public int fewest() {
        int best = NONE;
        for (int set = 0; set < SENSOR_SETS; set++) {
            boolean fewer = best == NONE || Integer.bitCount(set) < Integer.bitCount(best);
            if (fewer && now.rule.holds(set)) {
                best = set;
            }
        }
        return best;
    }

    private int wayWith(int ramp) {
        trial.copy(now);
        trial.settings[RAMP] = ramp;
        return trial.unitsUntilStopped();
    }

    // ---- texts

    public int put(long characters) {
        int added = pad.charactersIn(characters);
        if (added == 0) {
            return BAD_VALUE;
        }
        if (added > PAD_LENGTH - pad.length) {
            return TOO_MANY;
        }
        pad.append(characters, added);
        return pad.length;
    }

    public int wipe() {
        int before = pad.length;
        pad.length = 0;
        return before;
    }

    public int fault() {
        return pad.findFault();
    }

    public int load() {
        if (pad.findFault() != NONE) {
            return BAD_TEXT;
        }
        history.record(now);
        now.rule = reader.read(pad.text, pad.length);
        pad.length = 0;
        return now.rule.parts;
    }

    // ---- undo, saving

    public int undo() {
        if (history.length == 0) {
            return NOT_POSSIBLE;
        }
        history.takeBack(now);
        return history.length;
    }

    public int save(int slot) {
        if (slot < 0 || slot >= SLOTS) {
            return BAD_VALUE;
        }
        slots[slot].copy(now);
        saved[slot] = true;
        return now.people;
    }

    public int restore(int slot) {
        if (slot < 0 || slot >= SLOTS) {
            return BAD_VALUE;
        }
        if (!saved[slot]) {
            return NOT_POSSIBLE;
        }
        history.record(now);
        now.copy(slots[slot]);
        return now.people;
    }

    /** Everything that undo() takes back and save() keeps: the stairs, and what passes with a tick. */
    private static final class Stairs {
        final int[] settings = new int[SETTINGS];
        final int[] places = new int[MOST_PEOPLE];
        final int[] weights = new int[MOST_PEOPLE];
        final int[] cameAt = new int[MOST_PEOPLE];
        final int[] disagreed = new int[SPOTS];
        final int[] kept = new int[KEPT_STOPS * FACTS_OF_STOP];
        Rule rule;
        int people;
        int sensors;
        int mode = RUNNING;
        int tick;
        int speed;
        int offPeople;
        int offWeight;
        int stops;
        int emptyTicks;
        int units;
        int greatestChange;

        Stairs(Rule first) {
            rule = first;
            System.arraycopy(AT_FIRST, 0, settings, 0, SETTINGS);
        }

        void copy(Stairs other) {
            System.arraycopy(other.settings, 0, settings, 0, SETTINGS);
            System.arraycopy(other.places, 0, places, 0, MOST_PEOPLE);
            System.arraycopy(other.weights, 0, weights, 0, MOST_PEOPLE);
            System.arraycopy(other.cameAt, 0, cameAt, 0, MOST_PEOPLE);
            System.arraycopy(other.disagreed, 0, disagreed, 0, SPOTS);
            System.arraycopy(other.kept, 0, kept, 0, KEPT_STOPS * FACTS_OF_STOP);
            rule = other.rule;
            people = other.people;
            sensors = other.sensors;
            mode = other.mode;
            tick = other.tick;
            speed = other.speed;
            offPeople = other.offPeople;
            offWeight = other.offWeight;
            stops = other.stops;
            emptyTicks = other.emptyTicks;
            units = other.units;
            greatestChange = other.greatestChange;
        }

        int number(int what) {
            switch (what) {
                case 0: return tick;
                case 1: return people;
                case 2: return totalWeight();
                case 3: return speed;
                case 4: return mode;
                case 5: return offPeople;
                case 6: return offWeight;
                case 7: return stops;
                case 8: return emptyTicks;
                case 9: return units;
                case 10: return greatestChange;
                default: return settingCounted(what - COUNTED_SETTINGS);
            }
        }

        private int settingCounted(int setting) {
            return setting >= 0 && setting < SETTINGS ? settings[setting] : BAD_VALUE;
        }

        int totalWeight() {
            int total = 0;
            for (int i = 0; i < people && i < MOST_PEOPLE; i++) {
                total += weights[i];
            }
            return total;
        }

        void stepOn(int weight) {
            if (people >= MOST_PEOPLE) {
                return;
            }
            places[people] = 0;
            weights[people] = weight;
            cameAt[people] = tick;
            people++;
        }

        int complains(int spot, int sensor) {
            return (sensors >> (SENSORS_OF_SPOT * spot + sensor)) & 1;
        }

        void setComplaint(int spot, int sensor, int on) {
            int bit = SENSORS_OF_SPOT * spot + sensor;
            sensors = (sensors & ~(1 << bit)) | (on << bit);
        }

        boolean ruleHolds() {
            return rule.holds(sensors);
        }

        void beginStop(int byHand) {
            mode = STOPPING;
            stops++;
            // The latest stop stands first; the oldest one falls off the end.
            System.arraycopy(kept, 0, kept, FACTS_OF_STOP, (KEPT_STOPS - 1) * FACTS_OF_STOP);
            kept[0] = tick;
            kept[1] = speed;
            kept[2] = totalWeight();
            kept[3] = sensors;
            kept[4] = byHand;
        }

        void passTick(boolean holds) {
            if (mode == RUNNING && holds) {
                beginStop(0);
            }
            countDisagreements();
            int total = totalWeight();
            changeSpeed(wantedSpeed(total), total);
            carryPeople();
            if (mode == STOPPING && speed == 0) {
                mode = STOPPED;
            }
            emptyTicks = people == 0 ? emptyTicks + 1 : 0;
            tick++;
        }

        private void countDisagreements() {
            for (int spot = 0; spot < SPOTS; spot++) {
                boolean disagree = complains(spot, 0) != complains(spot, 1);
                disagreed[spot] = disagree ? disagreed[spot] + 1 : 0;
            }
        }

        private int wantedSpeed(int total) {
            if (mode != RUNNING) {
                return 0;
            }
            boolean idle = people == 0 && emptyTicks + 1 > settings[IDLE];
            if (idle || isInDoubt()) {
                return settings[SLOW];
            }
            int per = Math.max(1, settings[PER]);
            return Math.max(settings[SLOW], settings[FULL] - total / per);
        }

        private boolean isInDoubt() {
            for (int spot = 0; spot < SPOTS; spot++) {
                if (disagreed[spot] > settings[DOUBT]) {
                    return true;
                }
            }
            return false;
        }

        private void changeSpeed(int wanted, int total) {
            int ramp = settings[RAMP];
            int most = total > settings[HEAVY] ? (ramp + 1) / 2 : ramp;
            int change = Math.max(-most, Math.min(most, wanted - speed));
            speed += change;
            greatestChange = Math.max(greatestChange, Math.abs(change));
        }

        private void carryPeople() {
            int staying = 0;
            for (int i = 0; i < people && i < MOST_PEOPLE; i++) {
                int place = places[i] + speed;
                if (place >= WAY_LENGTH) {
                    offPeople++;
                    offWeight += weights[i];
                } else {
                    places[staying] = place;
                    weights[staying] = weights[i];
                    cameAt[staying] = cameAt[i];
                    staying++;
                }
            }
            people = staying;
            units += speed;
        }

        /** Lets ticks pass in this copy until it has stopped, and tells how far it went. */
        int unitsUntilStopped() {
            int before = units;
            if (mode == RUNNING) {
                mode = STOPPING;
            }
            for (int i = 0; i < LONGEST_LOOK && mode == STOPPING; i++) {
                passTick(false);
            }
            return units - before;
        }

        /** Lets ticks pass in this copy until nobody is on it, and tells how many did. */
        int ticksUntilEmpty() {
            boolean holds = ruleHolds();
            int passed = 0;
            while (passed < LONGEST_LOOK && people > 0 && mode != STOPPED) {
                passTick(holds);
                passed++;
            }
            return people == 0 ? passed : NONE;
        }
    }

    /** The states ahead of the latest changes, in a ring. */
    private static final class History {
        private final Stairs[] states = new Stairs[HISTORY_LENGTH];
        private int latest;
        int length;

        History(Rule first) {
            for (int i = 0; i < HISTORY_LENGTH; i++) {
                states[i] = new Stairs(first);
            }
        }

        void record(Stairs state) {
            latest = latest + 1 < HISTORY_LENGTH ? latest + 1 : 0;
            states[latest].copy(state);
            length = Math.min(HISTORY_LENGTH, length + 1);
        }

        void takeBack(Stairs state) {
            state.copy(states[latest]);
            latest = latest > 0 ? latest - 1 : HISTORY_LENGTH - 1;
            length--;
        }
    }

    /** The text that a rule is read from. */
    private static final class Pad {
        final char[] text = new char[PAD_LENGTH];
        int length;

        /** How many characters a number holds; 0 if it holds none, or anything that is none. */
        int charactersIn(long characters) {
            long rest = characters;
            int number = 0;
            while (number < CHARACTERS_OF_LONG && rest != 0) {
                long code = rest & 255;
                if (code < 33 || code > 126) {
                    return 0;
                }
                rest = rest >>> 8;
                number++;
            }
            return number;
        }

        void append(long characters, int added) {
            for (int i = added - 1; i >= 0 && length < PAD_LENGTH; i--) {
                text[length] = (char) ((characters >>> (8 * i)) & 255);
                length++;
            }
        }

        int findFault() {
            boolean partIsDue = true;
            int open = 0;
            for (int i = 0; i < length && i < PAD_LENGTH; i++) {
                char sign = text[i];
                if (partIsDue ? !beginsPart(sign) : !followsPart(sign, open)) {
                    return i;
                }
                if (sign == '(') {
                    open++;
                } else if (sign == ')') {
                    open--;
                } else if (sign != '!') {
                    partIsDue = !partIsDue;
                }
            }
            return partIsDue || open > 0 ? length : NONE;
        }

        private boolean beginsPart(char sign) {
            return sign == '(' || sign == '!' || isLetter(sign);
        }

        private boolean followsPart(char sign, int open) {
            return sign == '&' || sign == '|' || sign == ')' && open > 0;
        }

        private boolean isLetter(char sign) {
            return sign >= 'a' && sign <= 'd' || sign >= 'A' && sign <= 'D';
        }
    }

    /**
     * A rule, as a row of parts in which each one stands behind those that it is made of;
     * the last one is the whole rule. Sets of parts are the bits of a long: there are at most 60.
     */
    private static final class Rule {
        private final char[] signs = new char[PAD_LENGTH];
        private final int[] firsts = new int[PAD_LENGTH];
        private final int[] seconds = new int[PAD_LENGTH];
        private final int[] depths = new int[PAD_LENGTH];
        int parts;
        int letters;

        int addLetter(char sign) {
            letters |= 1 << letterNumber(sign);
            return add(sign, 0, 0, 1);
        }

        int addJoint(char sign, int first, int second) {
            int deepest = Math.max(depthOf(first), depthOf(second));
            return add(sign, first, second, 1 + deepest);
        }

        private int add(char sign, int first, int second, int depth) {
            if (parts >= PAD_LENGTH) {
                return 0;
            }
            signs[parts] = sign;
            firsts[parts] = first;
            seconds[parts] = second;
            depths[parts] = depth;
            parts++;
            return parts - 1;
        }

        private int depthOf(int part) {
            return part >= 0 && part < parts && part < PAD_LENGTH ? depths[part] : 0;
        }

        int depth() {
            return depthOf(parts - 1);
        }

        boolean holds(int sensors) {
            return isIn(holding(sensors), parts - 1);
        }

        int lookedAt(int sensors) {
            long holding = holding(sensors);
            long looked = 1L << (parts - 1);
            for (int i = Math.min(parts, PAD_LENGTH) - 1; i >= 0; i--) {
                if (isIn(looked, i)) {
                    looked |= lookedAtFrom(i, holding);
                }
            }
            return Long.bitCount(looked);
        }

        private long lookedAtFrom(int part, long holding) {
            long first = 1L << firsts[part];
            long second = 1L << seconds[part];
            boolean firstHolds = (holding & first) != 0;
            switch (signs[part]) {
                case '!': return first;
                case '&': return firstHolds ? first | second : first;
                case '|': return firstHolds ? first : first | second;
                default: return 0;
            }
        }

        private long holding(int sensors) {
            long holding = 0;
            for (int i = 0; i < parts && i < PAD_LENGTH; i++) {
                if (partHolds(i, sensors, holding)) {
                    holding |= 1L << i;
                }
            }
            return holding;
        }

        private boolean partHolds(int part, int sensors, long holding) {
            boolean first = isIn(holding, firsts[part]);
            boolean second = isIn(holding, seconds[part]);
            switch (signs[part]) {
                case '!': return !first;
                case '&': return first && second;
                case '|': return first || second;
                default: return letterHolds(letterNumber(signs[part]), sensors);
            }
        }

        private boolean letterHolds(int letter, int sensors) {
            int spot = letter % SPOTS;
            int pair = (sensors >> (SENSORS_OF_SPOT * spot)) & 3;
            return letter < SPOTS ? pair != 0 : pair == 3;
        }

        /** a to d are 0 to 3, A to D are 4 to 7. */
        private int letterNumber(char sign) {
            return sign >= 'a' ? sign - 'a' : sign - 'A' + SPOTS;
        }

        private boolean isIn(long set, int part) {
            return ((set >> part) & 1) != 0;
        }
    }

    /** Makes rules of texts that have no fault. */
    private static final class Reader {
        private final char[] waiting = new char[PAD_LENGTH];
        private final int[] free = new int[PAD_LENGTH];
        private int waitingSigns;
        private int freeParts;

        Rule read(char[] text, int length) {
            Rule made = new Rule();
            waitingSigns = 0;
            freeParts = 0;
            for (int i = 0; i < length && i < text.length; i++) {
                take(text[i], made);
            }
            joinWaiting(1, made);
            return made;
        }

        private void take(char sign, Rule made) {
            switch (sign) {
                case '!':
                case '(':
                    keepWaiting(sign);
                    break;
                case ')':
                    joinWaiting(1, made);
                    waitingSigns = Math.max(0, waitingSigns - 1);
                    break;
                case '&':
                case '|':
                    // What binds as strongly is joined first: so signs join from the left.
                    joinWaiting(strength(sign), made);
                    keepWaiting(sign);
                    break;
                default:
                    keepFree(made.addLetter(sign));
            }
        }

        private int strength(char sign) {
            switch (sign) {
                case '!': return 3;
                case '&': return 2;
                case '|': return 1;
                default: return 0;
            }
        }

        private void joinWaiting(int least, Rule made) {
            for (; waitingSigns > 0 && strength(waiting[waitingSigns - 1]) >= least; waitingSigns--) {
                joinFree(waiting[waitingSigns - 1], made);
            }
        }

        private void joinFree(char sign, Rule made) {
            int second = takeFree();
            int first = sign == '!' ? second : takeFree();
            keepFree(made.addJoint(sign, first, second));
        }

        private void keepWaiting(char sign) {
            if (waitingSigns < PAD_LENGTH) {
                waiting[waitingSigns] = sign;
                waitingSigns++;
            }
        }

        private void keepFree(int part) {
            if (freeParts < PAD_LENGTH) {
                free[freeParts] = part;
                freeParts++;
            }
        }

        private int takeFree() {
            if (freeParts == 0) {
                return 0;
            }
            freeParts--;
            return free[freeParts];
        }
    }
}
