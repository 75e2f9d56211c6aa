/** The boundary cases of promises 1 to 7, a test for each sentence. */
public final class ChangesEdgesTest {
    private static final int[] LEAST = {10, 1, 1, 1, 1, 1, 1};
    private static final int[] FIRST = {50, 10, 6, 20, 5, 100, 800};
    private static final int[] GREATEST = {90, 40, 30, 99, 99, 999, 9999};
    private static final int LOWEST = Integer.MIN_VALUE, HIGHEST = Integer.MAX_VALUE;

    private ChangesEdgesTest() { }

    public static void main(String[] args) {
        emptyStairs();
        objectsOfTheirOwn();
        previousValue();
        noSuchSetting();
        valueOutOfRange();
        howManyPeople();
        weightOutOfRange();
        thereAre20();
        roomAgain();
        comeUnlessTheyRun();
        complainedBefore();
        noSuchSpotOrSensor();
        onIsNeither1Nor0();
        stopReturnsTheSpeed();
        stopUnlessTheyRun();
        restartReturnsThePeople();
        restartUnlessStopped();
        restartWhileTheRuleHolds();
        ticksOutOfRange();
        noTickAbove99999();
        Check.end("ChangesEdgesTest");
    }

    private static void emptyStairs() {
        Check.about("Creates empty stairs that run, with the speed 0");
        SoftStairs x = new SoftStairs();
        for (int what = 0; what <= 19; what++) {
            int want = what >= 11 && what <= 17 ? FIRST[what - 11] : 0;
            Check.due("count(" + what + ")", x.count(what), want);
        }
        Check.due("of(0, 0)", x.of(0, 0), SoftStairs.NO_SUCH);
        Check.due("ofStop(0, 0)", x.ofStop(0, 0), SoftStairs.NO_SUCH);
        Check.due("way()", x.way(), 0);
        Check.due("emptyIn()", x.emptyIn(), 0);
        Check.due("leastRamp(0)", x.leastRamp(0), 1);
        Check.due("fewest()", x.fewest(), 3);
        Check.due("fault()", x.fault(), 0);
        Check.due("load()", x.load(), SoftStairs.BAD_TEXT);
        Check.due("wipe()", x.wipe(), 0);
        Check.due("undo()", x.undo(), SoftStairs.NOT_POSSIBLE);
        Check.due("restore(0)", x.restore(0), SoftStairs.NOT_POSSIBLE);
        Check.due("restore(1)", x.restore(1), SoftStairs.NOT_POSSIBLE);
        Check.due("restart()", x.restart(), SoftStairs.NOT_POSSIBLE);
    }

    private static void objectsOfTheirOwn() {
        Check.about("Creates empty stairs");
        SoftStairs used = States.made(States::stopping);
        String before = Calls.all(used);
        SoftStairs fresh = new SoftStairs();
        Check.holds("another object is as new", Calls.all(fresh).equals(Calls.all(new SoftStairs())));
        fresh.come(9);
        fresh.set(SoftStairs.FULL, 90);
        fresh.sense(0, 0, 1);
        Check.holds("it changes none but itself", Calls.all(used).equals(before));
    }

    private static void previousValue() {
        Check.about("Returns the previous value");
        for (int i = 0; i < 7; i++) {
            SoftStairs x = new SoftStairs();
            Check.due("set(" + i + ", least)", x.set(i, LEAST[i]), FIRST[i]);
            Check.due("is least", x.count(11 + i), LEAST[i]);
            Check.due("set(" + i + ", greatest)", x.set(i, GREATEST[i]), LEAST[i]);
            Check.due("is greatest", x.count(11 + i), GREATEST[i]);
            Check.due("set(" + i + ", greatest) again", x.set(i, GREATEST[i]), GREATEST[i]);
            for (int other = 0; other < 7; other++) {
                Check.due("setting " + other, x.count(11 + other), other == i ? GREATEST[i] : FIRST[other]);
            }
        }
    }

    private static void noSuchSetting() {
        Check.about("BAD_VALUE if there is no such setting");
        int[] none = {LOWEST, -1, 7, 8, HIGHEST};
        for (int setting : none) {
            for (int value = 10; value <= 30; value += 20) {
                int told = value;
                States.unchanged("set(" + setting + ", " + value + ")", States::running, x -> x.set(setting, told),
                    SoftStairs.BAD_VALUE);
            }
        }
    }

    private static void valueOutOfRange() {
        Check.about("BAD_VALUE if the value is out of its range");
        for (int i = 0; i < 7; i++) {
            int setting = i;
            int[] bad = {LOWEST, -LEAST[i], LEAST[i] - 1, GREATEST[i] + 1, HIGHEST};
            for (int value : bad) {
                States.unchanged("set(" + i + ", " + value + ")", States::running, x -> x.set(setting, value),
                    SoftStairs.BAD_VALUE);
            }
        }
    }

    private static void howManyPeople() {
        Check.about("Returns how many people are on the stairs then");
        SoftStairs x = new SoftStairs();
        Check.due("come(1)", x.come(1), 1);
        Check.due("its weight", x.of(0, 1), 1);
        Check.due("come(200)", x.come(200), 2);
        Check.due("its weight", x.of(1, 1), 200);
    }

    private static void weightOutOfRange() {
        Check.about("BAD_VALUE if weight is out of range (1 to 200)");
        int[] bad = {LOWEST, -1, 0, 201, HIGHEST};
        for (int weight : bad) {
            String call = "come(" + weight + ")";
            States.unchanged(call, States::running, x -> x.come(weight), SoftStairs.BAD_VALUE);
            States.unchanged(call + ", stopped", States::stopped, x -> x.come(weight), SoftStairs.BAD_VALUE);
            States.unchanged(call + ", 20 people", ChangesEdgesTest::full, x -> x.come(weight), SoftStairs.BAD_VALUE);
        }
    }

    private static void full(SoftStairs x) {
        Calls.come(x, 20, 3);
    }

    private static void fullAndStopping(SoftStairs x) {
        full(x);
        x.pass(2);
        x.stop();
    }

    private static void thereAre20() {
        Check.about("TOO_MANY if there are 20");
        SoftStairs x = new SoftStairs();
        Calls.come(x, 19, 3);
        Check.due("the 20th", x.come(3), 20);
        Check.due("the 21st", x.come(3), SoftStairs.TOO_MANY);
        States.unchanged("come(1)", ChangesEdgesTest::full, s -> s.come(1), SoftStairs.TOO_MANY);
        States.unchanged("come(200)", ChangesEdgesTest::full, s -> s.come(200), SoftStairs.TOO_MANY);
        States.unchanged("come(1), stopping", ChangesEdgesTest::fullAndStopping, s -> s.come(1), SoftStairs.TOO_MANY);
    }

    private static void roomAgain() {
        Check.about("TOO_MANY if there are 20 (and not any more when one is off)");
        SoftStairs x = new SoftStairs();
        x.come(1);
        x.pass(23);
        Calls.come(x, 19, 2);
        Check.due("full", x.come(3), SoftStairs.TOO_MANY);
        x.pass(1);
        Check.due("one is off", x.count(1), 19);
        Check.due("room for one", x.come(3), 20);
        Check.due("the last one", x.of(19, 1), 3);
        Check.due("full again", x.come(4), SoftStairs.TOO_MANY);
    }

    private static void comeUnlessTheyRun() {
        Check.about("NOT_POSSIBLE if the stairs do not run");
        States.unchanged("come(1), stopping", States::stopping, x -> x.come(1), SoftStairs.NOT_POSSIBLE);
        States.unchanged("come(200), stopped", States::stopped, x -> x.come(200), SoftStairs.NOT_POSSIBLE);
        SoftStairs y = States.made(States::stopped);
        int people = y.restart();
        Check.due("come(1) when they run again", y.come(1), people + 1);
        SoftStairs z = new SoftStairs();
        z.stop();
        Check.due("come(1), stopping without a tick", z.come(1), SoftStairs.NOT_POSSIBLE);
    }

    private static void complainedBefore() {
        Check.about("Returns 1 if it complained before, otherwise 0");
        for (int bit = 0; bit < 8; bit++) {
            SoftStairs x = new SoftStairs();
            Calls.senseAll(x, 255 - (1 << bit));
            Check.due("off, sensor " + bit, x.sense(bit / 2, bit % 2, 0), 0);
            Check.due("on", x.sense(bit / 2, bit % 2, 1), 0);
            Check.due("on again", x.sense(bit / 2, bit % 2, 1), 1);
            Check.due("off again", x.sense(bit / 2, bit % 2, 0), 1);
            Check.due("each call is a change", x.count(19), 6);
            for (int other = 0; other < 8; other++) {
                Check.due("sensor " + other, x.ofSpot(other / 2, other % 2), other == bit ? 0 : 1);
            }
        }
    }

    private static void noSuchSpotOrSensor() {
        Check.about("NO_SUCH if there is no such spot or sensor");
        int[][] none = {{LOWEST, 0}, {-1, 0}, {-1, 2}, {4, 0}, {4, -2}, {HIGHEST, 1},
            {0, LOWEST}, {0, -1}, {1, -1}, {0, 2}, {3, 2}, {0, 7}, {3, HIGHEST}};
        for (int[] one : none) {
            for (int on = 0; on <= 2; on++) {
                int told = on;
                States.unchanged("sense(" + one[0] + ", " + one[1] + ", " + on + ")", States::running,
                    x -> x.sense(one[0], one[1], told), SoftStairs.NO_SUCH);
            }
        }
    }

    private static void onIsNeither1Nor0() {
        Check.about("BAD_VALUE if on is neither 1 nor 0");
        int[] bad = {LOWEST, -1, 2, 3, 256, HIGHEST};
        for (int on : bad) {
            States.unchanged("sense(0, 0, " + on + ")", States::running, x -> x.sense(0, 0, on), SoftStairs.BAD_VALUE);
            States.unchanged("sense(3, 1, " + on + ")", States::running, x -> x.sense(3, 1, on), SoftStairs.BAD_VALUE);
        }
    }

    private static void stopReturnsTheSpeed() {
        Check.about("Stops the stairs softly by hand. Returns the speed");
        SoftStairs x = new SoftStairs();
        Check.due("stop() at first", x.stop(), 0);
        SoftStairs y = new SoftStairs();
        y.set(SoftStairs.FULL, 90);
        y.pass(15);
        Check.due("stop() at 90", y.stop(), 90);
        Check.due("softly", y.count(3), 90);
        y.pass(14);
        Check.due("still stopping", y.count(4), 1);
        y.pass(1);
        Check.due("stopped", y.count(4), 2);
    }

    private static void stopUnlessTheyRun() {
        Check.about("NOT_POSSIBLE if they do not run");
        States.unchanged("stop(), stopping", States::stopping, SoftStairs::stop, SoftStairs.NOT_POSSIBLE);
        States.unchanged("stop(), stopped", States::stopped, SoftStairs::stop, SoftStairs.NOT_POSSIBLE);
    }

    private static void restartReturnsThePeople() {
        Check.about("Lets the stairs run again. Returns how many people are on them");
        for (int people = 0; people <= 20; people += 20) {
            SoftStairs x = new SoftStairs();
            Calls.come(x, people, 1);
            x.stop();
            x.pass(1);
            Check.due("restart()", x.restart(), people);
            Check.due("they run", x.count(4), 0);
        }
    }

    private static void restartUnlessStopped() {
        Check.about("NOT_POSSIBLE if they have not stopped");
        States.unchanged("restart(), new", x -> { }, SoftStairs::restart, SoftStairs.NOT_POSSIBLE);
        States.unchanged("restart(), running", States::running, SoftStairs::restart, SoftStairs.NOT_POSSIBLE);
        States.unchanged("restart(), stopping", States::stopping, SoftStairs::restart, SoftStairs.NOT_POSSIBLE);
        SoftStairs y = new SoftStairs();
        y.stop();
        Check.due("stopping at the speed 0", y.restart(), SoftStairs.NOT_POSSIBLE);
        y.pass(1);
        Check.due("stopped", y.restart(), 0);
        Check.due("running again", y.restart(), SoftStairs.NOT_POSSIBLE);
    }

    private static void stoppedByTheRule(SoftStairs x) {
        States.running(x);
        x.sense(3, 0, 1);
        x.sense(3, 1, 1);
        x.pass(20);
    }

    private static void restartWhileTheRuleHolds() {
        Check.about("NOT_POSSIBLE if the rule holds");
        States.unchanged("restart()", ChangesEdgesTest::stoppedByTheRule, SoftStairs::restart, SoftStairs.NOT_POSSIBLE);
        SoftStairs x = States.made(ChangesEdgesTest::stoppedByTheRule);
        Check.due("have stopped", x.count(4), 2);
        x.sense(3, 0, 0);
        Check.due("the rule does not hold any more", x.restart(), 2);
        SoftStairs y = States.made(ChangesEdgesTest::stoppedByTheRule);
        Calls.loadRule(y, "!d");
        Check.due("another rule, that does not hold", y.restart(), 2);
    }

    private static void ticksOutOfRange() {
        Check.about("BAD_VALUE if ticks is out of range (1 to 999)");
        int[] bad = {LOWEST, -999, -1, 0, 1000, 99999, HIGHEST};
        for (int ticks : bad) {
            States.unchanged("pass(" + ticks + ")", States::running, x -> x.pass(ticks), SoftStairs.BAD_VALUE);
        }
        SoftStairs x = new SoftStairs();
        Check.due("pass(1)", x.pass(1), 1);
        Check.due("pass(999)", x.pass(999), 1000);
    }

    private static void noTickAbove99999() {
        Check.about("TOO_MANY if it would be above 99999");
        SoftStairs x = States.made(s -> Calls.passTo(s, 99000));
        Check.due("pass(999) in tick 99000", x.pass(999), 99999);
        x.undo();
        Check.due("pass(1) in tick 99000", x.pass(1), 99001);
        Check.due("pass(999) in tick 99001", x.pass(999), SoftStairs.TOO_MANY);
        Check.due("pass(998) in tick 99001", x.pass(998), 99999);
        Check.due("undo()", x.undo(), 5);
        Check.due("pass(998) again", x.pass(998), 99999);
        States.unchanged("pass(1) in tick 99999", s -> Calls.passTo(s, 99999), s -> s.pass(1), SoftStairs.TOO_MANY);
        States.unchanged("pass(999) in tick 99999", s -> Calls.passTo(s, 99999), s -> s.pass(999), SoftStairs.TOO_MANY);
        States.unchanged("pass(2) in tick 99998", s -> Calls.passTo(s, 99998), s -> s.pass(2), SoftStairs.TOO_MANY);
    }
}
